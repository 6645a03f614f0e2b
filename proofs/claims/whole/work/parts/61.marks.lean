/-! ===== the mathematics: settings, an empty room, marks ===== -/
theorem set_R {I : mIt} {b : Nat} {s : Int → Int} {w v : Int} (h : RR I b s) (hok : ((w = 0 ∨ w = 1) ∧ 1 ≤ v ∧ v ≤ 9) ∨ (w = 2 ∧ 0 ≤ v ∧ v ≤ 9) ∨ (w = 3 ∧ 1 ≤ v ∧ v ≤ 3)) : RR (mUp I (b + 1) w v) b (fset s (8 + w) v) := by
  obtain ⟨⟨hH, hN, hM, hO, hQ, hW, hV, eH, eN, eM, eO, eC, eD, hR⟩, hX, hz, hd, hsat⟩ := h
  have g : ∀ i : Int, i < 8 ∨ 11 < i → fset s (8 + w) v i = s i := fun i q => fset_ne _ _ (by omega)
  have J : ∀ y : Nat, y ≠ b + 1 → mUp I (b + 1) w v y = I y := fun y q => mUp_ne _ _ _ q
  have nd : ∀ c, need (fset s (8 + w) v) c ↔ need s c := need_congr (fun k _ _ => g _ (by omega)) (g 2 (by omega)) (g 3 (by omega)) (fun i _ => g i (by omega))
  have od : ∀ c, ordP (fset s (8 + w) v) c ↔ ordP s c := fun c => (pin_congr (g 2 (by omega)) (g 3 (by omega)) (fun i _ => g i (by omega)) c).2
  have z0 := g 0 (by omega)
  have z1 := g 1 (by omega)
  have z2 := g 2 (by omega)
  have z3 := g 3 (by omega)
  refine ⟨⟨?_, ?_, ?_, ?_, ?_, ?_, ?_, ?_, ?_, ?_, ?_, ?_, ?_, ?_⟩, ?_, ?_, ?_, ?_⟩
  · unfold IvH at *
    rw [z0, z1, z2, z3]
    simp only [fset]
    omega
  · intro k a1 a2
    rw [z0, g _ (by omega), g _ (by omega)]; exact hN k a1 a2
  · intro m k a1 a2 a3 a4
    rw [z2] at a2
    rw [z0, g _ (by omega), g _ (by omega)]; exact hM m k a1 a2 a3 a4
  · intro k a1 a2
    rw [z3] at a2
    rw [z0, z2, g (111 + 7 * k + 0) (by omega), g (111 + 7 * k + 1) (by omega), g (111 + 7 * k + 2) (by omega), g (111 + 7 * k + 3) (by omega), g (111 + 7 * k + 5) (by omega)]
    exact hO k a1 a2
  · refine ⟨fun j k a1 a2 a3 => ?_, fun k j a1 a2 a3 => ?_, fun m i k a1 a2 a3 a4 a5 a6 a7 => ?_⟩
    · rw [z3] at a3
      rw [g _ (by omega), g _ (by omega), g _ (by omega), g _ (by omega)]; exact hQ.1 j k a1 a2 a3
    · rw [z3] at a3
      rw [g _ (by omega), g _ (by omega), g _ (by omega)]; exact hQ.2.1 k j a1 a2 a3
    · rw [z3] at a6
      rw [z2] at a2
      rw [g _ (by omega)] at a7
      rw [g _ (by omega), g _ (by omega)]; exact hQ.2.2 m i k a1 a2 a3 a4 a5 a6 a7
  · intro c a1 a2
    rw [z0] at a2
    rw [g _ (by omega), nd c]; exact hW c a1 a2
  · intro c a1 a2
    rw [g _ (by omega)]; exact hV c a1 a2
  · unfold EqH at *
    rw [J b (by omega), mUp_at, z0, z1, z2, g 5 (by omega)]
    simp only [fset]
    omega
  · intro k a1 a2
    rw [J _ (by omega), J _ (by omega), g _ (by omega), g _ (by omega)]; exact eN k a1 a2
  · intro m a1 a2 k a3 a4
    rw [z2] at a2
    rw [J (mC b m) (by unfold mC; omega), J (mH b m) (by unfold mH; omega), g _ (by omega), g _ (by omega)]; exact eM m a1 a2 k a3 a4
  · intro k a1 a2
    rw [z3] at a2
    rw [J _ (by omega), J _ (by omega), J _ (by omega), J _ (by omega), J _ (by omega), g (111 + 7 * k + 0) (by omega), g (111 + 7 * k + 1) (by omega), g (111 + 7 * k + 2) (by omega), g (111 + 7 * k + 3) (by omega), g (111 + 7 * k + 5) (by omega)]
    exact eO k a1 a2
  · intro c a1 a2 a3
    rw [z0] at a2
    have r := eC c a1 a2 ((nd c).mp a3)
    unfold chR at *
    rw [J (b + 8) (by omega), J b (by omega), J (b + 6) (by omega), J (b + 7) (by omega), g (28 + 5 * c + 4) (by omega), g (28 + 5 * c + 3) (by omega), g (28 + 5 * c + 2) (by omega), g (28 + 5 * c + 1) (by omega), g 7 (by omega), z1, od c]
    exact r
  · intro k a1 a2
    rw [z3] at a2
    have q := eD k a1 a2
    have o := hO k a1 a2
    unfold orR at *
    rw [J (b + 6) (by omega), J (b + 7) (by omega), g (111 + 7 * k + 4) (by omega), g (111 + 7 * k + 1) (by omega), g (111 + 7 * k + 2) (by omega), g (111 + 7 * k + 3) (by omega), g (111 + 7 * k + 0) (by omega), g (28 + 5 * s (111 + 7 * k + 2) + 2) (by omega), g (28 + 5 * s (111 + 7 * k + 3) + 2) (by omega), z1]
    exact q
  · intro c a1 a2
    rw [J (b + 6) (by omega), J (b + 7) (by omega)]; exact hR c a1 a2
  · intro c a1 a2 a3
    rw [z0] at a2
    rw [g _ (by omega)]; exact hX c a1 a2 (fun z => a3 ((nd c).mpr z))
  · rw [J _ (by omega), z3]; exact hz
  · rw [J _ (by omega), g 4 (by omega)]; exact hd
  · rw [J _ (by omega), g 6 (by omega)]; exact hsat
theorem csV_eq {I : mIt} {b : Nat} {s : Int → Int} {w v : Int} (h : RR I b s) : csV I b w v = stV s w v ∧ (0 ≤ stV s w v → RR (csI I b w v) b (fset s (8 + w) v)) ∧ ((0 ≤ stV s w v) ↔ (((w = 0 ∨ w = 1) ∧ 1 ≤ v ∧ v ≤ 9) ∨ (w = 2 ∧ 0 ≤ v ∧ v ≤ 9) ∨ (w = 3 ∧ 1 ≤ v ∧ v ≤ 3))) := by
  have eH := h.1.2.2.2.2.2.2.2.1.2.2.2.2
  have hH := h.1.1.2.2.2.2
  unfold csV stV csI
  by_cases q : ((w = 0 ∨ w = 1) ∧ 1 ≤ v ∧ v ≤ 9) ∨ (w = 2 ∧ 0 ≤ v ∧ v ≤ 9) ∨ (w = 3 ∧ 1 ≤ v ∧ v ≤ 3)
  · have p : (0 ≤ w ∧ w ≤ 3) ∧ ((if w = 2 then 0 else 1) ≤ v ∧ v ≤ (if w = 3 then 3 else 9)) := by omega
    rw [if_pos p, if_pos q, if_pos p]
    have e : I (b + 1) w = s (8 + w) ∧ 0 ≤ s (8 + w) := by
      rcases (by omega : w = 0 ∨ w = 1 ∨ w = 2 ∨ w = 3) with z | z | z | z <;> subst z
      · exact ⟨eH.1, by show 0 ≤ s 8; omega⟩
      · exact ⟨eH.2.1, by show 0 ≤ s 9; omega⟩
      · exact ⟨eH.2.2.1, by show 0 ≤ s 10; omega⟩
      · exact ⟨eH.2.2.2, by show 0 ≤ s 11; omega⟩
    exact ⟨e.1, fun _ => set_R h q, fun _ => q, fun _ => e.2⟩
  · have p : ¬ ((0 ≤ w ∧ w ≤ 3) ∧ ((if w = 2 then 0 else 1) ≤ v ∧ v ≤ (if w = 3 then 3 else 9))) := by omega
    rw [if_neg p, if_neg q, if_neg p]
    exact ⟨rfl, fun z => absurd z (by decide), fun z => absurd z (by decide), fun z => absurd z q⟩
/-- an empty room -/
theorem clS_at {s : Int → Int} {c : Int} : clS s c 0 = c ∧ (∀ i : Int, 1 ≤ i → i ≤ 7 → clS s c i = 0) ∧ (∀ i : Int, 8 ≤ i → i ≤ 11 → clS s c i = s i) ∧ (∀ i : Int, 12 ≤ i → i ≤ 19 → clS s c i = -1) ∧ (∀ i : Int, 20 ≤ i → i < 153 → clS s c i = 0) := by
  unfold clS cpF
  refine ⟨fset_at _ _ _, fun i a1 a2 => ?_, fun i a1 a2 => ?_, fun i a1 a2 => ?_, fun i a1 a2 => ?_⟩
  all_goals (rw [fset_ne _ _ (by omega), if_pos (by omega)]; show (if 8 ≤ i ∧ i ≤ 11 then s i else if 12 ≤ i ∧ i ≤ 19 then -1 else 0) = _; omega)
theorem empty_RR {I : mIt} {b : Nat} {s : Int → Int} {c : Int} (hc : 3 ≤ c ∧ c ≤ 7) (h0 : s 0 = c) (hl : ∀ i : Int, 1 ≤ i → i ≤ 7 → s i = 0) (hs : (1 ≤ s 8 ∧ s 8 ≤ 9) ∧ (1 ≤ s 9 ∧ s 9 ≤ 9) ∧ (0 ≤ s 10 ∧ s 10 ≤ 9) ∧ (1 ≤ s 11 ∧ s 11 ≤ 3)) (hn : ∀ i : Int, 12 ≤ i → i ≤ 19 → s i = -1) (hh : ∀ i : Int, 20 ≤ i → i < 153 → s i = 0)
    (j0 : I b 0 = c) (jl : ∀ k : Int, (1 ≤ k ∧ k ≤ 4) ∨ k = 6 → I b k = 0) (js : I (b + 1) 0 = s 8 ∧ I (b + 1) 1 = s 9 ∧ I (b + 1) 2 = s 10 ∧ I (b + 1) 3 = s 11) (jn : ∀ k : Int, 0 ≤ k → k < 8 → I (b + 3) k = -1 ∧ I (b + 4) k = 0) (jz : I (b + 9) 0 = 0) (hR : RgR I b) : RR I b s := by
  have z1 := hl 1 (by omega) (by omega)
  have z2 := hl 2 (by omega) (by omega)
  have z3 := hl 3 (by omega) (by omega)
  have nd : ∀ y : Int, 0 ≤ y → ¬ need s y := by
    rintro y y0 (⟨k, q1, q2, f⟩ | ⟨m, q1, q2, _⟩ | ⟨k, q1, q2, f⟩ | ⟨k, q1, q2, f⟩)
    · rw [hn _ (by omega) (by omega)] at f; omega
    · omega
    · omega
    · omega
  refine ⟨⟨?_, ?_, ?_, ?_, ?_, ?_, ?_, ?_, ?_, ?_, ?_, ?_, ?_, hR⟩, ?_, ?_, ?_, ?_⟩
  · unfold IvH; rw [h0, z1, z2, z3]; exact ⟨hc, by omega, by omega, by omega, hs⟩
  · intro k a1 a2
    rw [h0, hn _ (by omega) (by omega), hh _ (by omega) (by omega)]; omega
  · intro m k a1 a2; omega
  · intro k a1 a2; omega
  · exact ⟨fun j k a1 a2 a3 => by omega, fun k j a1 a2 a3 => by omega, fun m i k a1 a2 => by omega⟩
  · intro y a1 a2
    rw [hh _ (by omega) (by omega)]
    exact ⟨Or.inl rfl, fun z => absurd z (nd y a1)⟩
  · intro y a1 a2
    rw [hh _ (by omega) (by omega)]; omega
  · unfold EqH
    rw [h0, z1, z2, hl 5 (by omega) (by omega)]
    exact ⟨j0, jl 1 (by omega), jl 3 (by omega), jl 6 (by omega), js⟩
  · intro k a1 a2
    rw [hn _ (by omega) (by omega), hh _ (by omega) (by omega)]; exact jn k a1 a2
  · intro m a1 a2; omega
  · intro k a1 a2; omega
  · intro y a1 a2 a3; exact absurd a3 (nd y a1)
  · intro k a1 a2; omega
  · intro y a1 a2 _; exact hh _ (by omega) (by omega)
  · rw [jz, z3]
  · rw [jl 2 (by omega), hl 4 (by omega) (by omega)]
  · rw [jl 4 (by omega), hl 6 (by omega) (by omega)]
theorem begin_R {I : mIt} {b : Nat} {s : Int → Int} {c : Int} (h : RR I b s) (hc : 3 ≤ c ∧ c ≤ 7) : RR (emI I b c) b (clS s c) := by
  obtain ⟨⟨hH, hN, hM, hO, hQ, hW, hV, eH, eN, eM, eO, eC, eD, hR⟩, hX, hz, hd, hsat⟩ := h
  obtain ⟨c0, cl, cs, cn, ch⟩ := clS_at (s := s) (c := c)
  have J : ∀ y : Nat, y ≠ b → y ≠ b + 3 → y ≠ b + 4 → y ≠ b + 9 → emI I b c y = I y := fun y q0 q3 q4 q9 => by
    unfold emI
    rw [cpy_ne _ _ _ q4, cpy_ne _ _ _ q3, mUp_ne _ _ _ q9, mUp_ne _ _ _ q0, mUp_ne _ _ _ q0, mUp_ne _ _ _ q0, mUp_ne _ _ _ q0, mUp_ne _ _ _ q0, mUp_ne _ _ _ q0]
  have Jb : emI I b c b = fset (fset (fset (fset (fset (fset (I b) 0 c) 1 0) 2 0) 3 0) 4 0) 6 0 := by
    unfold emI
    rw [cpy_ne _ _ _ (by omega), cpy_ne _ _ _ (by omega), mUp_ne _ _ _ (by omega), mUp_at, mUp_at, mUp_at, mUp_at, mUp_at, mUp_at]
  refine empty_RR (c := c) hc c0 cl ?_ (fun i a1 a2 => cn i a1 a2) (fun i a1 a2 => ch i a1 a2) ?_ ?_ ?_ ?_ ?_ ?_
  · rw [cs 8 (by omega) (by omega), cs 9 (by omega) (by omega), cs 10 (by omega) (by omega), cs 11 (by omega) (by omega)]; exact hH.2.2.2.2
  · rw [Jb, fset_ne _ _ (by omega), fset_ne _ _ (by omega), fset_ne _ _ (by omega), fset_ne _ _ (by omega), fset_ne _ _ (by omega), fset_at]
  · intro k hk
    rw [Jb]; simp only [fset]; omega
  · rw [J (b + 1) (by omega) (by omega) (by omega) (by omega), cs 8 (by omega) (by omega), cs 9 (by omega) (by omega), cs 10 (by omega) (by omega), cs 11 (by omega) (by omega)]; exact eH.2.2.2.2
  · intro k a1 a2
    unfold emI
    rw [cpy_ne _ _ _ (by omega), cpy_in _ _ a1 (by omega), cpy_in _ _ a1 (by omega)]
    exact ⟨rfl, rfl⟩
  · unfold emI
    rw [cpy_ne _ _ _ (by omega), cpy_ne _ _ _ (by omega), mUp_at, fset_at]
  · intro y a1 a2
    rw [J (b + 6) (by omega) (by omega) (by omega) (by omega), J (b + 7) (by omega) (by omega) (by omega) (by omega)]; exact hR y a1 a2
/-- a mark more -/
theorem mark_R {I : mIt} {b mc : Nat} {s : Int → Int} (h : RR I b s) (hm : s 2 = mc) (h3 : mc < 3) : RR (amI I b mc) b (fset (mkA s mc 16) 2 ((mc : Int) + 1)) := by
  obtain ⟨⟨hH, hN, hM, hO, hQ, hW, hV, eH, eN, eM, eO, eC, eD, hR⟩, hX, hz, hd, hsat⟩ := h
  have g : ∀ i : Int, i ≠ 2 → (i < 63 + 16 * (mc : Int) ∨ 63 + 16 * (mc : Int) + 16 ≤ i) → fset (mkA s mc 16) 2 ((mc : Int) + 1) i = s i := fun i q1 q2 => by
    rw [fset_ne _ _ q1, mkA, if_neg (by omega)]
  have gm : ∀ k : Int, 0 ≤ k → k < 8 → fset (mkA s mc 16) 2 ((mc : Int) + 1) (63 + 16 * (mc : Int) + k) = s (12 + k) ∧ fset (mkA s mc 16) 2 ((mc : Int) + 1) (63 + 16 * (mc : Int) + 8 + k) = s (20 + k) := fun k a1 a2 => by
    constructor
    · rw [fset_ne _ _ (by omega), mkA, if_pos (by omega), show 12 + (63 + 16 * (mc : Int) + k - (63 + 16 * (mc : Int))) = 12 + k by omega]
    · rw [fset_ne _ _ (by omega), mkA, if_pos (by omega), show 12 + (63 + 16 * (mc : Int) + 8 + k - (63 + 16 * (mc : Int))) = 20 + k by omega]
  have z2 : fset (mkA s mc 16) 2 ((mc : Int) + 1) 2 = (mc : Int) + 1 := fset_at _ _ _
  generalize fset (mkA s mc 16) 2 ((mc : Int) + 1) = t at g gm z2 ⊢
  have eJ : amI I b mc = mUp (cpy (cpy I (mC b mc) 8 (I (b + 3))) (mH b mc) 8 (I (b + 4))) b 6 (mc + 1 : Nat) := by unfold amI; rw [if_neg (by omega)]
  have mCe : ∀ m : Int, mC b m = b + 17 + 3 * m.toNat := fun m => rfl
  have mHe : ∀ m : Int, mH b m = b + 18 + 3 * m.toNat := fun m => rfl
  have J : ∀ y : Nat, y ≠ b → y ≠ mC b mc → y ≠ mH b mc → amI I b mc y = I y := fun y q0 q1 q2 => by
    rw [eJ, mUp_ne _ _ _ q0, cpy_ne _ _ _ q2, cpy_ne _ _ _ q1]
  have Jl : ∀ y : Nat, y ≠ b → y < b + 17 → amI I b mc y = I y := fun y q0 q1 => J y q0 (by rw [mCe]; omega) (by rw [mHe]; omega)
  have Jb : amI I b mc b = fset (I b) 6 (mc + 1 : Nat) := by
    rw [eJ, mUp_at, cpy_ne _ _ _ (by rw [mHe]; omega), cpy_ne _ _ _ (by rw [mCe]; omega)]
  have z0 := g 0 (by omega) (by omega)
  have z1 := g 1 (by omega) (by omega)
  have z3 := g 3 (by omega) (by omega)
  have go : ∀ i : Int, 111 ≤ i → t i = s i := fun i q => g i (by omega) (by omega)
  have gl : ∀ i : Int, i ≠ 2 → i < 63 → t i = s i := fun i q1 q2 => g i q1 (by omega)
  have od : ∀ c, ordP t c ↔ ordP s c := by
    intro c; unfold ordP; rw [z3]
    constructor
    · rintro ⟨k, a, b, f⟩; exact ⟨k, a, b, by rw [← go _ (by omega)]; exact f⟩
    · rintro ⟨k, a, b, f⟩; exact ⟨k, a, b, by rw [go _ (by omega)]; exact f⟩
  have rd : ∀ c, redP t c ↔ redP s c := by
    intro c; unfold redP; rw [z3]
    constructor
    · rintro ⟨k, a, b, f⟩; exact ⟨k, a, b, by rw [← go _ (by omega), ← go (111 + 7 * k + 3) (by omega)]; exact f⟩
    · rintro ⟨k, a, b, f⟩; exact ⟨k, a, b, by rw [go _ (by omega), go (111 + 7 * k + 3) (by omega)]; exact f⟩
  have hdP : ∀ c, hadP t c ↔ hadP s c := by
    intro c; unfold hadP
    constructor
    · rintro ⟨k, a, b, f⟩; exact ⟨k, a, b, by rw [← gl _ (by omega) (by omega)]; exact f⟩
    · rintro ⟨k, a, b, f⟩; exact ⟨k, a, b, by rw [gl _ (by omega) (by omega)]; exact f⟩
  have nd : ∀ c, need t c ↔ need s c := by
    intro c
    unfold need pinP
    rw [od c, rd c, hdP c]
    have : mrkP t c ↔ (mrkP s c ∨ hadP s c) := by
      unfold mrkP hadP
      rw [z2]
      constructor
      · rintro ⟨m, a, b, k, d, e, f⟩
        by_cases q : m = mc
        · rw [q, (gm k d e).1] at f; exact Or.inr ⟨k, d, e, f⟩
        · exact Or.inl ⟨m, a, by omega, k, d, e, by rw [← g _ (by omega) (by omega)]; exact f⟩
      · rintro (⟨m, a, b, k, d, e, f⟩ | ⟨k, d, e, f⟩)
        · exact ⟨m, a, by omega, k, d, e, by rw [g _ (by omega) (by omega)]; exact f⟩
        · exact ⟨mc, by omega, by omega, k, d, e, by rw [(gm k d e).1]; exact f⟩
    rw [this]
    constructor
    · rintro (q | (q | q) | q)
      · exact Or.inl q
      · exact Or.inr (Or.inl q)
      · exact Or.inl q
      · exact Or.inr (Or.inr q)
    · rintro (q | q | q)
      · exact Or.inl q
      · exact Or.inr (Or.inl (Or.inl q))
      · exact Or.inr (Or.inr q)
  refine ⟨⟨?_, ?_, ?_, ?_, ?_, ?_, ?_, ?_, ?_, ?_, ?_, ?_, ?_, ?_⟩, ?_, ?_, ?_, ?_⟩
  · unfold IvH at *
    rw [z0, z1, z2, z3, gl 8 (by omega) (by omega), gl 9 (by omega) (by omega), gl 10 (by omega) (by omega), gl 11 (by omega) (by omega)]
    exact ⟨hH.1, hH.2.1, by omega, hH.2.2.2⟩
  · intro k a1 a2
    rw [z0, gl _ (by omega) (by omega), gl _ (by omega) (by omega)]; exact hN k a1 a2
  · intro m k a1 a2 a3 a4
    rw [z2] at a2
    rw [z0]
    by_cases q : m = mc
    · rw [q, (gm k a3 a4).1, (gm k a3 a4).2]; exact hN k a3 a4
    · rw [g _ (by omega) (by omega), g _ (by omega) (by omega)]; exact hM m k a1 (by omega) a3 a4
  · intro k a1 a2
    rw [z3] at a2
    have := hO k a1 a2
    rw [z0, z2, go _ (by omega), go _ (by omega), go _ (by omega), go _ (by omega), go _ (by omega)]
    omega
  · refine ⟨fun j k a1 a2 a3 => ?_, fun k j a1 a2 a3 => ?_, fun m i k a1 a2 a3 a4 a5 a6 a7 => ?_⟩
    · rw [z3] at a3
      rw [go _ (by omega), go _ (by omega), go _ (by omega), go _ (by omega)]; exact hQ.1 j k a1 a2 a3
    · rw [z3] at a3
      rw [go _ (by omega), go _ (by omega), go _ (by omega)]; exact hQ.2.1 k j a1 a2 a3
    · rw [z3] at a6
      rw [z2] at a2
      rw [go _ (by omega)] at a7
      have := (hO k a5 a6).2.2.2.2.2
      rw [g _ (by omega) (by omega), go _ (by omega)]; exact hQ.2.2 m i k a1 (by omega) a3 a4 a5 a6 a7
  · intro c a1 a2
    rw [z0] at a2
    rw [gl _ (by omega) (by have := hH.1; omega), nd c]; exact hW c a1 a2
  · intro c a1 a2
    rw [gl _ (by omega) (by omega)]; exact hV c a1 a2
  · unfold EqH at *
    rw [Jb, Jl (b + 1) (by omega) (by omega), z0, z1, z2, gl 5 (by omega) (by omega), gl 8 (by omega) (by omega), gl 9 (by omega) (by omega), gl 10 (by omega) (by omega), gl 11 (by omega) (by omega), fset_ne _ _ (by omega), fset_ne _ _ (by omega), fset_ne _ _ (by omega), fset_at]
    exact ⟨eH.1, eH.2.1, eH.2.2.1, by omega, eH.2.2.2.2⟩
  · intro k a1 a2
    rw [Jl _ (by omega) (by omega), Jl _ (by omega) (by omega), gl _ (by omega) (by omega), gl _ (by omega) (by omega)]; exact eN k a1 a2
  · intro m a1 a2 k a3 a4
    rw [z2] at a2
    by_cases q : m = mc
    · rw [q, (gm k a3 a4).1, (gm k a3 a4).2, eJ, mUp_ne _ _ _ (by rw [mCe]; omega), mUp_ne _ _ _ (by rw [mHe]; omega), cpy_ne _ _ _ (by rw [mCe, mHe]; omega), cpy_in _ _ a3 (by omega), cpy_in _ _ a3 (by omega)]
      exact eN k a3 a4
    · rw [J (mC b m) (by rw [mCe]; omega) (by rw [mCe, mCe]; omega) (by rw [mCe, mHe]; omega), J (mH b m) (by rw [mHe]; omega) (by rw [mHe, mCe]; omega) (by rw [mHe, mHe]; omega), g _ (by omega) (by omega), g _ (by omega) (by omega)]
      exact eM m a1 (by omega) k a3 a4
  · intro k a1 a2
    rw [z3] at a2
    rw [Jl _ (by omega) (by omega), Jl _ (by omega) (by omega), Jl _ (by omega) (by omega), Jl _ (by omega) (by omega), Jl _ (by omega) (by omega), go _ (by omega), go _ (by omega), go _ (by omega), go _ (by omega), go _ (by omega)]
    exact eO k a1 a2
  · intro c a1 a2 a3
    rw [z0] at a2
    have h7 := hH.1
    have r := eC c a1 a2 ((nd c).mp a3)
    unfold chR at *
    rw [Jl (b + 8) (by omega) (by omega), Jb, fset_ne (I b) _ (show (5 : Int) ≠ 6 by omega), Jl (b + 6) (by omega) (by omega), Jl (b + 7) (by omega) (by omega), gl (28 + 5 * c + 4) (by omega) (by omega), gl (28 + 5 * c + 3) (by omega) (by omega), gl (28 + 5 * c + 2) (by omega) (by omega), gl (28 + 5 * c + 1) (by omega) (by omega), gl 7 (by omega) (by omega), z1, od c]
    exact r
  · intro k a1 a2
    rw [z3] at a2
    have q := eD k a1 a2
    have o := hO k a1 a2
    have h7 := hH.1
    unfold orR at *
    rw [Jl (b + 6) (by omega) (by omega), Jl (b + 7) (by omega) (by omega), go (111 + 7 * k + 4) (by omega), go (111 + 7 * k + 1) (by omega), go (111 + 7 * k + 2) (by omega), go (111 + 7 * k + 3) (by omega), go (111 + 7 * k + 0) (by omega), gl (28 + 5 * s (111 + 7 * k + 2) + 2) (by omega) (by omega), gl (28 + 5 * s (111 + 7 * k + 3) + 2) (by omega) (by omega), z1]
    exact q
  · intro c a1 a2
    rw [Jl (b + 6) (by omega) (by omega), Jl (b + 7) (by omega) (by omega)]; exact hR c a1 a2
  · intro c a1 a2 a3
    rw [z0] at a2
    rw [gl _ (by omega) (by have := hH.1; omega)]; exact hX c a1 a2 (fun z => a3 ((nd c).mpr z))
  · rw [Jl _ (by omega) (by omega), z3]; exact hz
  · rw [Jb, fset_ne _ _ (by omega), gl 4 (by omega) (by omega)]; exact hd
  · rw [Jb, fset_ne _ _ (by omega), gl 6 (by omega) (by omega)]; exact hsat
