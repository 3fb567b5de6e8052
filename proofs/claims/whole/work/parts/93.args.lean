/-! The reader: a command's numbers. -/
section AG
variable {T : TX} {p p' : Nat} {c : CM}
theorem ar_heat (h : rWd T 0 p = (p', true)) : (rHeat T p c).1 = (raM T 0 p').2.1 ∧ (rHeat T p c).2.2 = !(raM T 0 p').2.2 ∧ ((rHeat T p c).2.2 = true → (rHeat T p c).2.1 = (0, (raM T 0 p').1.1, (raM T 0 p').1.2.1, (raM T 0 p').1.2.2)) := by
  unfold rHeat raM rThen rWord
  rw [h]
  rcases hd : dig T p' with _ | x
  · simp [rCell, dgM, nbB, exM, nbM, hd]
  · rcases hd2 : dig T (p' + 1) with _ | y
    · simp [rCell, dgM, nbB, exM, nbM, hd, hd2]
    · rcases hn : nxt T (p' + 2) 43 with _ | _
      · simp [rCell, dgM, nbB, exM, nbM, hd, hd2, rSign, hn]
      · rcases hd3 : dig T (p' + 2 + 1) with _ | z
        · simp [rCell, dgM, nbB, exM, nbM, hd, hd2, rSign, hn, rThird, num, hd3]
        · simp [rCell, dgM, nbB, exM, nbM, hd, hd2, rSign, hn, rThird, num, hd3, oI]
theorem ar_grd (h : rWd T 1 p = (p', true)) : (rGrd T p c).1 = (raM T 1 p').2.1 ∧ (rGrd T p c).2.2 = !(raM T 1 p').2.2 ∧ ((rGrd T p c).2.2 = true → (rGrd T p c).2.1 = (1, (raM T 1 p').1.1, (raM T 1 p').1.2.1, (raM T 1 p').1.2.2)) := by
  unfold rGrd raM rThen rWord
  rw [h]
  rcases hd : dig T p' with _ | x
  · simp [rCell, dgM, ghM, hd]
  · rcases hd2 : dig T (p' + 1) with _ | y
    · simp [rCell, dgM, ghM, hd, hd2]
    · by_cases hg : p' + 2 < T.2 ∧ groundP (nI (T.1 (p' + 2)))
      · have e : hrI T (p' + 2) = nI (T.1 (p' + 2)) := if_pos hg.1
        have g1 : ∀ c2 : CM, rGround T (p' + 2) c2 = (p' + 2 + 1, (c2.1, c2.2.1, c2.2.2.1, nI (T.1 (p' + 2))), true) := fun c2 => if_pos hg
        have g2 : ghM T (p' + 2) false = (nI (T.1 (p' + 2)), p' + 2 + 1, false) := by
          unfold ghM
          rw [if_neg (by decide), e, if_pos hg.2]
        simp [rCell, dgM, hd, hd2, g1, g2]
      · have e : ¬ groundP (hrI T (p' + 2)) := fun q => by
          unfold hrI at q
          by_cases w : p' + 2 < T.2
          · rw [if_pos w] at q
            exact hg ⟨w, q⟩
          · rw [if_neg w] at q
            exact absurd q (by decide)
        have g1 : ∀ c2 : CM, rGround T (p' + 2) c2 = (p' + 2, c2, false) := fun c2 => if_neg hg
        have g2 : ghM T (p' + 2) false = (hrI T (p' + 2), p' + 2, true) := by
          unfold ghM
          rw [if_neg (by decide), if_neg e]
        simp [rCell, dgM, hd, hd2, g1, g2]
theorem ar_bord (h : rWd T 2 p = (p', true)) : (rBord T p c).1 = (raM T 2 p').2.1 ∧ (rBord T p c).2.2 = !(raM T 2 p').2.2 ∧ ((rBord T p c).2.2 = true → (rBord T p c).2.1.1 = 2 ∧ (rBord T p c).2.1.2.1 = (raM T 2 p').1.1 ∧ (rBord T p c).2.1.2.2.1 = (raM T 2 p').1.2.1) := by
  unfold rBord raM rThen rWord
  rw [h]
  rcases hd : dig T p' with _ | x
  · simp [rSide, digP, dgM, nbB, exM, nbM, hd]
  · rcases hn : nxt T (p' + 1) 61 with _ | _
    · simp [rSide, digP, dgM, nbB, exM, nbM, hd, rSign, hn]
    · rcases hd3 : dig T (p' + 1 + 1) with _ | z
      · simp [rSide, digP, dgM, nbB, exM, nbM, hd, rSign, hn, rSecond, num, hd3]
      · simp [rSide, digP, dgM, nbB, exM, nbM, hd, rSign, hn, rSecond, num, hd3, oI]
theorem ar_pass (h : rWd T 3 p = (p', true)) : (rPass T p c).1 = (raM T 3 p').2.1 ∧ (rPass T p c).2.2 = !(raM T 3 p').2.2 ∧ ((rPass T p c).2.2 = true → (rPass T p c).2.1.1 = 3 ∧ (rPass T p c).2.1.2.1 = (raM T 3 p').1.1) := by
  unfold rPass raM rThen rWord
  rw [h]
  rcases hd : dig T p' with _ | x
  · simp [nbM, rFirst, num, hd]
  · simp [nbM, rFirst, num, hd, oI]
end AG
