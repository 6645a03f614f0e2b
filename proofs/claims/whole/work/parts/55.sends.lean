/-! ===== the mathematics: a version is sent out; a new one lies on a chair ===== -/
/-- a chair that waits for its new version -/
def RX (x : Int) (I : mIt) (b : Nat) (s : Int → Int) : Prop := Rg (s 1) (s 1) (fun k => k) I b s ∧ (0 ≤ x ∧ x < s 0) ∧ ¬ need s x ∧ (∀ c : Int, 0 ≤ c → c < s 0 → c ≠ x → ¬ need s c → s (28 + 5 * c + 0) = 0) ∧ I (b + 9) 0 = s 3 ∧ I b 2 = s 4 ∧ I b 4 = s 6
theorem snR_at {s : Int → Int} {c : Int} (hc : 0 ≤ c) : ∀ j : Nat, j ≤ 8 → ∀ k : Int, 0 ≤ k → k < 8 → snR s c j (12 + k) = (if k < (j : Int) ∧ s (12 + k) = c then -1 else s (12 + k)) ∧ snR s c j (20 + k) = (if k < (j : Int) ∧ s (12 + k) = c then s (28 + 5 * c + 1) else s (20 + k)) := by
  intro j
  induction j with
  | zero =>
    intro _ k h0 h1
    rw [if_neg (by omega), if_neg (by omega)]; exact ⟨rfl, rfl⟩
  | succ j ih =>
    intro hj k h0 h1
    have ih' := ih (by omega)
    rw [snR]
    by_cases q : s (12 + (j : Int)) = c
    · rw [if_pos q]
      by_cases hk : k = (j : Int)
      · subst hk
        rw [fset_ne _ _ (by omega), fset_at, fset_at, if_pos ⟨by omega, q⟩, if_pos ⟨by omega, q⟩]; exact ⟨rfl, rfl⟩
      · rw [fset_ne _ _ (by omega), fset_ne _ _ (by omega), fset_ne _ _ (by omega), fset_ne _ _ (by omega), (ih' k h0 h1).1, (ih' k h0 h1).2]
        have e : (k < ((j + 1 : Nat) : Int) ∧ s (12 + k) = c) ↔ (k < (j : Int) ∧ s (12 + k) = c) := by constructor <;> (rintro ⟨a, b⟩; exact ⟨by omega, b⟩)
        simp only [e]
        exact ⟨by first | rfl | trivial, by first | rfl | trivial⟩
    · rw [if_neg q, (ih' k h0 h1).1, (ih' k h0 h1).2]
      have e : (k < ((j + 1 : Nat) : Int) ∧ s (12 + k) = c) ↔ (k < (j : Int) ∧ s (12 + k) = c) := by
        constructor
        · rintro ⟨a, b⟩
          refine ⟨?_, b⟩
          have : k ≠ (j : Int) := by intro z; rw [z] at b; exact q b
          omega
        · rintro ⟨a, b⟩; exact ⟨by omega, b⟩
      simp only [e]
      exact ⟨by first | rfl | trivial, by first | rfl | trivial⟩
theorem snR_out {s : Int → Int} {c : Int} {i : Int} (h : i < 12 ∨ 28 ≤ i) : snR s c 8 i = s i := snR_ne s c 8 (by omega) i (by omega)
/-- sent out -/
theorem sent_R {I : mIt} {b : Nat} {s : Int → Int} {one other x : Int} (h : RR I b s) (x0 : 0 ≤ x) (x1 : x < s 0) (hx : mayP s one other x) : RX x (sendI I b x (I (b + 6) x)) b (fset (snR s x 8) 5 (s 5 + 1)) := by
  obtain ⟨⟨hH, hN, hM, hO, hQ, hW, hV, eH, eN, eM, eO, eC, eD, hR⟩, hX, hz, hd, hsat⟩ := h
  obtain ⟨m1, m2, m3, m4⟩ := hx
  have h7 := hH.1
  have g : ∀ i : Int, i ≠ 5 → (i < 12 ∨ 28 ≤ i) → fset (snR s x 8) 5 (s 5 + 1) i = s i := fun i q r => by rw [fset_ne _ _ q, snR_out r]
  have gn : ∀ k : Int, 0 ≤ k → k < 8 → fset (snR s x 8) 5 (s 5 + 1) (12 + k) = (if s (12 + k) = x then -1 else s (12 + k)) := fun k a1 a2 => by
    rw [fset_ne _ _ (by omega), (snR_at x0 8 (by omega) k a1 a2).1]
    by_cases q : s (12 + k) = x
    · rw [if_pos ⟨by omega, q⟩, if_pos q]
    · rw [if_neg (fun z => q z.2), if_neg q]
  have gh : ∀ k : Int, 0 ≤ k → k < 8 → fset (snR s x 8) 5 (s 5 + 1) (20 + k) = (if s (12 + k) = x then s (28 + 5 * x + 1) else s (20 + k)) := fun k a1 a2 => by
    rw [fset_ne _ _ (by omega), (snR_at x0 8 (by omega) k a1 a2).2]
    by_cases q : s (12 + k) = x
    · rw [if_pos ⟨by omega, q⟩, if_pos q]
    · rw [if_neg (fun z => q z.2), if_neg q]
  have J : ∀ y : Nat, y ≠ b → y ≠ b + 3 → y ≠ b + 4 → sendI I b x (I (b + 6) x) y = I y := fun y q1 q2 q3 => by
    unfold sendI
    rw [cpy_ne _ _ _ q3, cpy_ne _ _ _ q2, mUp_ne _ _ _ q1]
  have Jb : sendI I b x (I (b + 6) x) b = fset (I b) 3 (I b 3 + 1) := by
    unfold sendI
    rw [cpy_ne _ _ _ (by omega), cpy_ne _ _ _ (by omega), mUp_at]
  have Jn : ∀ k : Int, 0 ≤ k → k < 8 → sendI I b x (I (b + 6) x) (b + 3) k = (if s (12 + k) = x then -1 else s (12 + k)) := fun k a1 a2 => by
    unfold sendI
    rw [cpy_ne _ _ _ (by omega), cpy_in _ _ a1 (by omega), sendF, (eN k a1 a2).1]
  have Jh : ∀ k : Int, 0 ≤ k → k < 8 → sendI I b x (I (b + 6) x) (b + 4) k = (if s (12 + k) = x then I (b + 6) x else s (20 + k)) := fun k a1 a2 => by
    unfold sendI
    rw [cpy_in _ _ a1 (by omega), sendG, (eN k a1 a2).1, (eN k a1 a2).2]
  have vx : I (b + 6) x = s (28 + 5 * x + 1) := by
    have q := (eC x x0 x1 (Or.inl m1)).2
    rcases q with q | q
    · exact absurd (Or.inr (Or.inr q.1)) m2
    · exact q.2.1
  have g0 := g 0 (by omega) (by omega)
  have pc := fun c => pin_congr (s := s) (t := fset (snR s x 8) 5 (s 5 + 1)) (g 2 (by omega) (by omega)) (g 3 (by omega) (by omega)) (fun i _ => g i (by omega) (by omega)) c
  have nx : ¬ need (fset (snR s x 8) 5 (s 5 + 1)) x := by
    rintro (⟨k, a1, a2, f⟩ | f)
    · rw [gn k a1 a2] at f
      by_cases q : s (12 + k) = x
      · rw [if_pos q] at f; omega
      · rw [if_neg q] at f; exact q f
    · exact m2 ((pc x).1.mp f)
  have ndc : ∀ c : Int, 0 ≤ c → c ≠ x → (need (fset (snR s x 8) 5 (s 5 + 1)) c ↔ need s c) := by
    intro c c0 cx
    unfold need
    rw [(pc c).1]
    have : hadP (fset (snR s x 8) 5 (s 5 + 1)) c ↔ hadP s c := by
      constructor
      · exact had_sub c0 (fun k a1 a2 => by
          rw [gn k a1 a2]
          by_cases q : s (12 + k) = x
          · right; rw [if_pos q]
          · left; rw [if_neg q])
      · rintro ⟨k, a1, a2, f⟩
        refine ⟨k, a1, a2, ?_⟩
        rw [gn k a1 a2, if_neg (by omega)]; exact f
    rw [this]
  obtain ⟨kH, kM, kO, kQ, kE, kEM, kEO⟩ := keepMO (J := sendI I b x (I (b + 6) x)) (t := fset (snR s x 8) 5 (s 5 + 1)) hH hM hO hQ eH eM eO (fun i _ => g i (by omega) (by omega)) ⟨g _ (by omega) (by omega), g _ (by omega) (by omega), g _ (by omega) (by omega), g _ (by omega) (by omega), g _ (by omega) (by omega), g _ (by omega) (by omega), g _ (by omega) (by omega), g _ (by omega) (by omega)⟩ (fun y q1 q2 q3 _ _ _ => J y q1 q2 q3) ⟨by rw [Jb, fset_ne _ _ (by omega)], by rw [Jb, fset_ne _ _ (by omega)], by rw [Jb, fset_at, fset_at, eH.2.2.1], by rw [Jb, fset_ne _ _ (by omega)]⟩
  refine ⟨⟨kH, ?_, kM, kO, kQ, ?_, ?_, kE, ?_, kEM, kEO, ?_, ?_, ?_⟩, ⟨x0, by rw [g0]; exact x1⟩, nx, ?_, ?_, ?_, ?_⟩
  · intro k a1 a2
    have := hN k a1 a2
    have v := hV x x0 (by omega)
    rw [g0, gn k a1 a2, gh k a1 a2]
    by_cases q : s (12 + k) = x
    · rw [if_pos q, if_pos q]; omega
    · rw [if_neg q, if_neg q]; exact this
  · intro c a1 a2
    rw [g0] at a2
    rw [g (28 + 5 * c + 0) (by omega) (by omega)]
    refine ⟨(hW c a1 a2).1, fun z => ?_⟩
    by_cases q : c = x
    · exact absurd (q ▸ z) nx
    · exact (hW c a1 a2).2 ((ndc c a1 q).mp z)
  · intro c a1 a2
    rw [g _ (by omega) (by omega)]
    exact hV c a1 a2
  · intro k a1 a2
    rw [gn k a1 a2, gh k a1 a2, Jn k a1 a2, Jh k a1 a2, vx]
    exact ⟨rfl, rfl⟩
  · intro c a1 a2 a3
    rw [g0] at a2
    have q : c ≠ x := fun z => nx (z ▸ a3)
    have r := eC c a1 a2 ((ndc c a1 q).mp a3)
    unfold chR at *
    rw [J (b + 8) (by omega) (by omega) (by omega), J (b + 6) (by omega) (by omega) (by omega), J (b + 7) (by omega) (by omega) (by omega), Jb, fset_ne (I b) _ (show (5 : Int) ≠ 3 by omega), g (28 + 5 * c + 4) (by omega) (by omega), g (28 + 5 * c + 3) (by omega) (by omega), g (28 + 5 * c + 2) (by omega) (by omega), g (28 + 5 * c + 1) (by omega) (by omega), g 7 (by omega) (by omega), g 1 (by omega) (by omega), (pc c).2]
    exact r
  · intro k a1 a2
    rw [g 3 (by omega) (by omega)] at a2
    have q := eD k a1 a2
    have o := hO k a1 a2
    unfold orR at *
    rw [J (b + 6) (by omega) (by omega) (by omega), J (b + 7) (by omega) (by omega) (by omega), g (111 + 7 * k + 4) (by omega) (by omega), g (111 + 7 * k + 1) (by omega) (by omega), g (111 + 7 * k + 2) (by omega) (by omega), g (111 + 7 * k + 3) (by omega) (by omega), g (111 + 7 * k + 0) (by omega) (by omega), g (28 + 5 * s (111 + 7 * k + 2) + 2) (by omega) (by omega), g (28 + 5 * s (111 + 7 * k + 3) + 2) (by omega) (by omega), g 1 (by omega) (by omega)]
    exact q
  · intro c a1 a2
    rw [J (b + 6) (by omega) (by omega) (by omega), J (b + 7) (by omega) (by omega) (by omega)]
    exact hR c a1 a2
  · intro c a1 a2 a3 a4
    rw [g0] at a2
    rw [g _ (by omega) (by omega)]
    exact hX c a1 a2 (fun z => a4 ((ndc c a1 a3).mpr z))
  · rw [J (b + 9) (by omega) (by omega) (by omega), g 3 (by omega) (by omega)]; exact hz
  · rw [Jb, fset_ne _ _ (by omega), g 4 (by omega) (by omega)]; exact hd
  · rw [Jb, fset_ne _ _ (by omega), g 6 (by omega) (by omega)]; exact hsat
theorem free_R {I : mIt} {b : Nat} {s : Int → Int} {x : Int} (h : RR I b s) (x0 : 0 ≤ x) (x1 : x < s 0) (hx : ¬ need s x) : RX x I b s :=
  ⟨h.1, ⟨x0, x1⟩, hx, fun c a1 a2 _ a4 => h.2.1 c a1 a2 a4, h.2.2⟩
