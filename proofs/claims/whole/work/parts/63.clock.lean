/-! ===== the mathematics: the time goes on ===== -/
theorem tcS_at {s : Int → Int} : ∀ nc : Nat, nc ≤ 7 → (∀ i : Int, (i < 28 ∨ 28 + 5 * (nc : Int) ≤ i) → tcS s nc i = if i = 1 then s 1 + 1 else s i) ∧
    (∀ c w : Int, 0 ≤ c → c < nc → 0 ≤ w → w ≤ 4 → tcS s nc (28 + 5 * c + w) = if (s (28 + 5 * c + 0) = 1 ∧ 0 ≤ s (28 + 5 * c + 3) ∧ s (28 + 5 * c + 3) ≤ s 1 + 1) then (if w = 2 then 1 else if w = 3 then -1 else s (28 + 5 * c + w)) else s (28 + 5 * c + w)) := by
  intro nc
  induction nc with
  | zero =>
    intro _
    refine ⟨fun i _ => ?_, fun c w a b => by omega⟩
    rw [tcS]
    by_cases q : i = 1
    · rw [q, fset_at, if_pos rfl]
    · rw [fset_ne _ _ q, if_neg q]
  | succ nc ih =>
    intro h7
    obtain ⟨i1, i2⟩ := ih (by omega)
    have e : ∀ w : Int, 0 ≤ w → tcS s nc (28 + 5 * (nc : Int) + w) = s (28 + 5 * (nc : Int) + w) := fun w hw => by rw [i1 _ (by omega), if_neg (by omega)]
    have e1 : tcS s nc 1 = s 1 + 1 := by rw [i1 1 (by omega), if_pos rfl]
    rw [tcS, e 0 (by omega), e 3 (by omega), e 1 (by omega), e1]
    by_cases q : s (28 + 5 * (nc : Int) + 0) = 1 ∧ 0 ≤ s (28 + 5 * (nc : Int) + 3) ∧ s (28 + 5 * (nc : Int) + 3) ≤ s 1 + 1
    · rw [if_pos q]
      constructor
      · intro i hi
        unfold ikS
        rw [fset_ne _ _ (by omega), fset_ne _ _ (by omega), fset_ne _ _ (by omega), i1 i (by omega)]
      · intro c w c0 c1 w0 w4
        by_cases hc : c = (nc : Int)
        · subst hc
          rw [if_pos q]
          unfold ikS
          rcases (by omega : w = 0 ∨ w = 1 ∨ w = 2 ∨ w = 3 ∨ w = 4) with z | z | z | z | z <;> subst z
          · rw [fset_ne _ _ (by omega), fset_ne _ _ (by omega), fset_ne _ _ (by omega), e 0 (by omega)]; rfl
          · rw [fset_ne _ _ (by omega), fset_ne _ _ (by omega), fset_at]; rfl
          · rw [fset_ne _ _ (by omega), fset_at]; rfl
          · rw [fset_at]; rfl
          · rw [fset_ne _ _ (by omega), fset_ne _ _ (by omega), fset_ne _ _ (by omega), e 4 (by omega)]; rfl
        · unfold ikS
          rw [fset_ne _ _ (by omega), fset_ne _ _ (by omega), fset_ne _ _ (by omega), i2 c w c0 (by omega) w0 w4]
    · rw [if_neg q]
      constructor
      · intro i hi
        rw [i1 i (by omega)]
      · intro c w c0 c1 w0 w4
        by_cases hc : c = (nc : Int)
        · subst hc
          rw [if_neg q, e w w0]
        · rw [i2 c w c0 (by omega) w0 w4]
theorem clock_R {I : mIt} {b nc : Nat} {s : Int → Int} (h : RR I b s) (hc : s 0 = nc) (hT : s 1 + 1 ≤ 60000) : Rg (s 1 + 1) (s 1) (fun k => k) (mUp I b 1 (I b 1 + 1)) b (tcS s nc) ∧ (∀ i : Int, (i < 28 ∨ 63 ≤ i) → tcS s nc i = if i = 1 then s 1 + 1 else s i) := by
  obtain ⟨⟨hH, hN, hM, hO, hQ, hW, hV, eH, eN, eM, eO, eC, eD, hR⟩, hX, hz, hd, hsat⟩ := h
  have h7 := hH.1
  obtain ⟨t1, t2⟩ := tcS_at (s := s) nc (by omega)
  have g : ∀ i : Int, i ≠ 1 → (i < 28 ∨ 63 ≤ i) → tcS s nc i = s i := fun i q1 q2 => by rw [t1 i (by omega), if_neg q1]
  have z1 : tcS s nc 1 = s 1 + 1 := by rw [t1 1 (by omega), if_pos rfl]
  have gall : ∀ i : Int, (i < 28 ∨ 63 ≤ i) → tcS s nc i = if i = 1 then s 1 + 1 else s i := fun i q => t1 i (by omega)
  have gc7 : ∀ c : Int, 0 ≤ c → c < 7 → tcS s nc (28 + 5 * c + 1) = s (28 + 5 * c + 1) := fun c a1 a2 => by
    by_cases q : c < nc
    · rw [t2 c 1 a1 q (by omega) (by omega)]; split <;> rfl
    · rw [t1 _ (by omega), if_neg (by omega)]
  have gc : ∀ c w : Int, 0 ≤ c → c < s 0 → 0 ≤ w → w ≤ 4 → tcS s nc (28 + 5 * c + w) = if (s (28 + 5 * c + 0) = 1 ∧ 0 ≤ s (28 + 5 * c + 3) ∧ s (28 + 5 * c + 3) ≤ s 1 + 1) then (if w = 2 then 1 else if w = 3 then -1 else s (28 + 5 * c + w)) else s (28 + 5 * c + w) := fun c w a1 a2 a3 a4 => t2 c w a1 (by omega) a3 a4
  generalize tcS s nc = t at g z1 gall gc gc7 ⊢
  have gh : ∀ i : Int, 63 ≤ i → t i = s i := fun i q => g i (by omega) (by omega)
  have gl : ∀ i : Int, i ≠ 1 → i < 28 → t i = s i := fun i q1 q2 => g i q1 (by omega)
  have z0 := gl 0 (by omega) (by omega)
  have z2 := gl 2 (by omega) (by omega)
  have z3 := gl 3 (by omega) (by omega)
  have nd : ∀ c, need t c ↔ need s c := need_congr (fun k _ _ => gl _ (by omega) (by omega)) z2 z3 gh
  have od : ∀ c, ordP t c ↔ ordP s c := fun c => (pin_congr z2 z3 gh c).2
  have gk : ∀ c : Int, 0 ≤ c → c < s 0 → s (28 + 5 * c + 2) = 1 → t (28 + 5 * c + 2) = 1 := fun c a1 a2 a3 => by
    rw [gc c 2 a1 a2 (by omega) (by omega)]
    split
    · rfl
    · exact a3
  have J : ∀ y : Nat, y ≠ b → mUp I b 1 (I b 1 + 1) y = I y := fun y q => mUp_ne _ _ _ q
  have Jb : mUp I b 1 (I b 1 + 1) b = fset (I b) 1 (I b 1 + 1) := mUp_at _ _ _ _
  refine ⟨⟨?_, ?_, ?_, ?_, ?_, ?_, ?_, ?_, ?_, ?_, ?_, ?_, ?_, ?_⟩, gall⟩
  · unfold IvH at *
    rw [z0, z1, z2, z3, gl 8 (by omega) (by omega), gl 9 (by omega) (by omega), gl 10 (by omega) (by omega), gl 11 (by omega) (by omega)]
    exact ⟨hH.1, by omega, hH.2.2⟩
  · intro k a1 a2
    rw [z0, gl _ (by omega) (by omega), gl _ (by omega) (by omega)]; exact hN k a1 a2
  · intro m k a1 a2 a3 a4
    rw [z2] at a2
    rw [z0, gh _ (by omega), gh _ (by omega)]; exact hM m k a1 a2 a3 a4
  · intro k a1 a2
    rw [z3] at a2
    rw [z0, z2, gh (111 + 7 * k + 0) (by omega), gh (111 + 7 * k + 1) (by omega), gh (111 + 7 * k + 2) (by omega), gh (111 + 7 * k + 3) (by omega), gh (111 + 7 * k + 5) (by omega)]
    exact hO k a1 a2
  · refine ⟨fun j k a1 a2 a3 => ?_, fun k j a1 a2 a3 => ?_, fun m i k a1 a2 a3 a4 a5 a6 a7 => ?_⟩
    · rw [z3] at a3
      rw [gh _ (by omega), gh _ (by omega), gh _ (by omega), gh _ (by omega)]; exact hQ.1 j k a1 a2 a3
    · rw [z3] at a3
      rw [gh _ (by omega), gh _ (by omega), gh _ (by omega)]; exact hQ.2.1 k j a1 a2 a3
    · rw [z3] at a6
      rw [z2] at a2
      rw [gh _ (by omega)] at a7
      rw [gh _ (by omega), gh _ (by omega)]; exact hQ.2.2 m i k a1 a2 a3 a4 a5 a6 a7
  · intro c a1 a2
    rw [z0] at a2
    have w := hW c a1 a2
    rw [gc c 0 a1 a2 (by omega) (by omega), nd c]
    split
    · rw [if_neg (by omega), if_neg (by omega)]; exact w
    · exact w
  · intro c a1 a2
    rw [gc7 c a1 a2]; exact hV c a1 a2
  · unfold EqH at *
    rw [Jb, J (b + 1) (by omega), z0, z1, z2, gl 5 (by omega) (by omega), gl 8 (by omega) (by omega), gl 9 (by omega) (by omega), gl 10 (by omega) (by omega), gl 11 (by omega) (by omega), fset_ne _ _ (by omega), fset_at, fset_ne _ _ (by omega), fset_ne _ _ (by omega)]
    exact ⟨eH.1, by omega, eH.2.2⟩
  · intro k a1 a2
    rw [J _ (by omega), J _ (by omega), gl _ (by omega) (by omega), gl _ (by omega) (by omega)]; exact eN k a1 a2
  · intro m a1 a2 k a3 a4
    rw [z2] at a2
    rw [J (mC b m) (by unfold mC; omega), J (mH b m) (by unfold mH; omega), gh _ (by omega), gh _ (by omega)]; exact eM m a1 a2 k a3 a4
  · intro k a1 a2
    rw [z3] at a2
    rw [J _ (by omega), J _ (by omega), J _ (by omega), J _ (by omega), J _ (by omega), gh (111 + 7 * k + 0) (by omega), gh (111 + 7 * k + 1) (by omega), gh (111 + 7 * k + 2) (by omega), gh (111 + 7 * k + 3) (by omega), gh (111 + 7 * k + 5) (by omega)]
    exact eO k a1 a2
  · intro c a1 a2 a3
    rw [z0] at a2
    have n3 := (nd c).mp a3
    have r := eC c a1 a2 n3
    have w := (hW c a1 a2).2 n3
    unfold chR at *
    rw [J (b + 8) (by omega), Jb, fset_ne (I b) _ (show (5 : Int) ≠ 1 by omega), J (b + 6) (by omega), J (b + 7) (by omega), gl 7 (by omega) (by omega), od c, gc c 4 a1 a2 (by omega) (by omega), gc c 3 a1 a2 (by omega) (by omega), gc c 2 a1 a2 (by omega) (by omega), gc c 1 a1 a2 (by omega) (by omega)]
    obtain ⟨r1, r2⟩ := r
    refine ⟨by split <;> exact r1, ?_⟩
    rcases r2 with ⟨q1, q2, q3⟩ | ⟨q1, q2, q3⟩
    · left
      rw [if_neg (by omega), if_neg (by omega)]; exact ⟨q1, q2, q3⟩
    · right
      refine ⟨q1, by split <;> exact q2, ?_⟩
      rcases q3 with ⟨p1, p2, p3⟩ | ⟨p1, p2, p3, p4⟩
      · left
        rw [if_neg (by omega), if_neg (by omega)]; exact ⟨p1, p2, by omega⟩
      · by_cases q : s (28 + 5 * c + 3) ≤ s 1 + 1
        · left
          have h1 := hH.2.1
          have cq : s (28 + 5 * c + 0) = 1 ∧ 0 ≤ s (28 + 5 * c + 3) ∧ s (28 + 5 * c + 3) ≤ s 1 + 1 := ⟨w, by omega, q⟩
          rw [if_pos cq, if_pos cq]
          exact ⟨rfl, rfl, by omega⟩
        · right
          rw [if_neg (by omega), if_neg (by omega)]
          exact ⟨p1, p2, by omega, by omega⟩
  · intro k a1 a2
    rw [z3] at a2
    have q := eD k a1 a2
    have o := hO k a1 a2
    unfold orR at *
    rw [J (b + 6) (by omega), J (b + 7) (by omega), gh (111 + 7 * k + 4) (by omega), gh (111 + 7 * k + 1) (by omega), gh (111 + 7 * k + 2) (by omega), gh (111 + 7 * k + 3) (by omega), gh (111 + 7 * k + 0) (by omega)]
    refine ⟨?_, q.2⟩
    rcases q.1 with q1 | ⟨q1, q2, q3, q4, q5⟩
    · exact Or.inl q1
    · exact Or.inr ⟨q1, q2, q3, gk _ (by omega) (by omega) q4, gk _ (by omega) (by omega) q5⟩
  · intro c a1 a2
    rw [J (b + 6) (by omega), J (b + 7) (by omega)]; exact hR c a1 a2
