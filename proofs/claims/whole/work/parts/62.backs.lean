/-! ===== the mathematics: the first mark goes; all goes back to a mark ===== -/
theorem kpZ_at {s : Int → Int} : ∀ n : Nat, (∀ i : Int, (∀ k : Int, 0 ≤ k → k < n → i ≠ 111 + 7 * k + 5) → kpO s n i = s i) ∧ (∀ k : Int, 0 ≤ k → k < n → kpO s n (111 + 7 * k + 5) = s (111 + 7 * k + 5) - (if 0 < s (111 + 7 * k + 5) then 1 else 0)) := by
  intro n
  induction n with
  | zero => exact ⟨fun i _ => rfl, fun k a b => by omega⟩
  | succ n ih =>
    constructor
    · intro i h
      rw [kpO, fset_ne _ _ (h n (by omega) (by omega)), ih.1 i (fun k a b => h k a (by omega))]
    · intro k a b
      rw [kpO]
      by_cases q : k = (n : Int)
      · subst q; rw [fset_at]
      · rw [fset_ne _ _ (by omega), ih.2 k a (by omega)]
theorem keep_R {I : mIt} {b n mc nc : Nat} {s : Int → Int} (h : RR I b s) (hn : s 3 = n) (hm : s 2 = mc) (hc : s 0 = nc) (m0 : 0 < mc) : RR (dfI I b n mc) b (kpS s n mc nc) := by
  obtain ⟨⟨hH, hN, hM, hO, hQ, hW, hV, eH, eN, eM, eO, eC, eD, hR⟩, hX, hz, hd, hsat⟩ := h
  have h7 := hH.1
  have hm3 := hH.2.2.1
  have hn6 := hH.2.2.2.1
  unfold kpS
  have gA : ∀ i : Int, i ≠ 2 → (i < 63 ∨ 111 ≤ i) → kpA s mc (16 * (mc - 1)) i = s i := fun i q1 q2 => by
    unfold kpA; rw [if_neg q1, if_neg (by omega)]
  have gM : ∀ m k : Int, 0 ≤ m → m < (mc : Int) - 1 → 0 ≤ k → k < 16 → kpA s mc (16 * (mc - 1)) (63 + 16 * m + k) = s (63 + 16 * (m + 1) + k) := fun m k a1 a2 a3 a4 => by
    unfold kpA; rw [if_neg (by omega), if_pos (by omega), show 63 + 16 * m + k + 16 = 63 + 16 * (m + 1) + k by omega]
  have g2 : kpA s mc (16 * (mc - 1)) 2 = (mc : Int) - 1 := by unfold kpA; rw [if_pos rfl]
  have kO := kpZ_at (s := kpA s mc (16 * (mc - 1))) n
  have gk : ∀ i : Int, i < 111 → kpO (kpA s mc (16 * (mc - 1))) n i = kpA s mc (16 * (mc - 1)) i := fun i q => kO.1 i (fun k _ _ => by omega)
  have gl : ∀ i : Int, i ≠ 2 → i < 63 → kpO (kpA s mc (16 * (mc - 1))) n i = s i := fun i q1 q2 => by rw [gk i (by omega), gA i q1 (by omega)]
  have gm : ∀ m k : Int, 0 ≤ m → m < (mc : Int) - 1 → 0 ≤ k → k < 16 → kpO (kpA s mc (16 * (mc - 1))) n (63 + 16 * m + k) = s (63 + 16 * (m + 1) + k) := fun m k a1 a2 a3 a4 => by
    rw [gk _ (by omega), gM m k a1 a2 a3 a4]
  have go : ∀ k w : Int, 0 ≤ k → 0 ≤ w → w < 7 → w ≠ 5 → kpO (kpA s mc (16 * (mc - 1))) n (111 + 7 * k + w) = s (111 + 7 * k + w) := fun k w a1 a2 a3 a4 => by
    rw [kO.1 _ (fun j _ _ => by omega), gA _ (by omega) (by omega)]
  have g5 : ∀ k : Int, 0 ≤ k → k < n → kpO (kpA s mc (16 * (mc - 1))) n (111 + 7 * k + 5) = s (111 + 7 * k + 5) - (if 0 < s (111 + 7 * k + 5) then 1 else 0) := fun k a1 a2 => by
    rw [kO.2 k a1 a2, gA _ (by omega) (by omega)]
  have z2 : kpO (kpA s mc (16 * (mc - 1))) n 2 = (mc : Int) - 1 := by rw [gk 2 (by omega), g2]
  generalize kpO (kpA s mc (16 * (mc - 1))) n = t at gl gm go g5 z2 ⊢
  have z0 := gl 0 (by omega) (by omega)
  have z1 := gl 1 (by omega) (by omega)
  have z3 := gl 3 (by omega) (by omega)
  -- the room
  have eJ : dfI I b n mc = fgm (mUp (dfm I b) b 6 (mc - 1 : Nat)) (b + 14) n := by unfold dfI; rw [if_neg (by omega)]
  have J : ∀ y : Nat, y ≠ b → y ≠ b + 14 → y < b + 17 → dfI I b n mc y = I y := fun y q0 q1 q2 => by
    rw [eJ, fgm, cpy_ne _ _ _ q1, mUp_ne _ _ _ q0, dfm, cpy_ne _ _ _ (by omega), cpy_ne _ _ _ (by omega), cpy_ne _ _ _ (by omega), cpy_ne _ _ _ (by omega)]
  have Jb : dfI I b n mc b = fset (I b) 6 (mc - 1 : Nat) := by
    rw [eJ, fgm, cpy_ne _ _ _ (by omega), mUp_at, dfm, cpy_ne _ _ _ (by omega), cpy_ne _ _ _ (by omega), cpy_ne _ _ _ (by omega), cpy_ne _ _ _ (by omega)]
  have J14 : ∀ k : Int, 0 ≤ k → k < n → dfI I b n mc (b + 14) k = (if 0 < I (b + 14) k then I (b + 14) k - 1 else I (b + 14) k) := fun k a1 a2 => by
    have e : mUp (dfm I b) b 6 ((mc - 1 : Nat) : Int) (b + 14) = I (b + 14) := by
      rw [mUp_ne _ _ _ (by omega), dfm, cpy_ne _ _ _ (by omega), cpy_ne _ _ _ (by omega), cpy_ne _ _ _ (by omega), cpy_ne _ _ _ (by omega)]
    rw [eJ, fgm, cpy_in _ _ a1 (by omega), e]
  have JM : ∀ m : Int, 0 ≤ m → m < 2 → ∀ k : Int, 0 ≤ k → k < 8 → dfI I b n mc (mC b m) k = I (mC b (m + 1)) k ∧ dfI I b n mc (mH b m) k = I (mH b (m + 1)) k := by
    intro m a1 a2 k a3 a4
    rcases (by omega : m = 0 ∨ m = 1) with q | q <;> subst q
    · rw [show mC b 0 = b + 17 from rfl, show mH b 0 = b + 18 from rfl, show mC b (0 + 1) = b + 20 from rfl, show mH b (0 + 1) = b + 21 from rfl, eJ, fgm, cpy_ne _ _ _ (by omega), cpy_ne _ _ _ (by omega), mUp_ne _ _ _ (by omega), mUp_ne _ _ _ (by omega), dfm, cpy_ne _ _ _ (by omega), cpy_ne _ _ _ (by omega), cpy_ne _ _ _ (by omega), cpy_in _ _ a3 (by omega), cpy_ne _ _ _ (by omega), cpy_ne _ _ _ (by omega), cpy_in _ _ a3 (by omega)]
      exact ⟨rfl, rfl⟩
    · rw [show mC b 1 = b + 20 from rfl, show mH b 1 = b + 21 from rfl, show mC b (1 + 1) = b + 23 from rfl, show mH b (1 + 1) = b + 24 from rfl, eJ, fgm, cpy_ne _ _ _ (by omega), cpy_ne _ _ _ (by omega), mUp_ne _ _ _ (by omega), mUp_ne _ _ _ (by omega), dfm, cpy_ne _ _ _ (by omega), cpy_in _ _ a3 (by omega), cpy_in _ _ a3 (by omega)]
      exact ⟨rfl, rfl⟩
  have od : ∀ c, ordP t c ↔ ordP s c := by
    intro c; unfold ordP; rw [z3]
    constructor
    · rintro ⟨k, a, b, f⟩; exact ⟨k, a, b, by rw [← go k 1 a (by omega) (by omega) (by omega)]; exact f⟩
    · rintro ⟨k, a, b, f⟩; exact ⟨k, a, b, by rw [go k 1 a (by omega) (by omega) (by omega)]; exact f⟩
  have rd : ∀ c, redP t c ↔ redP s c := by
    intro c; unfold redP; rw [z3]
    constructor
    · rintro ⟨k, a, b, f⟩; exact ⟨k, a, b, by rw [← go k 2 a (by omega) (by omega) (by omega), ← go k 3 a (by omega) (by omega) (by omega)]; exact f⟩
    · rintro ⟨k, a, b, f⟩; exact ⟨k, a, b, by rw [go k 2 a (by omega) (by omega) (by omega), go k 3 a (by omega) (by omega) (by omega)]; exact f⟩
  have nd : ∀ c, need t c → need s c := by
    rintro c (⟨k, a, b, f⟩ | ⟨m, a, b, k, d, e, f⟩ | f | f)
    · exact Or.inl ⟨k, a, b, by rw [← gl _ (by omega) (by omega)]; exact f⟩
    · rw [z2] at b
      exact Or.inr (Or.inl ⟨m + 1, by omega, by omega, k, d, e, by rw [← gm m k a b d (by omega)]; exact f⟩)
    · exact Or.inr (Or.inr (Or.inl ((rd c).mp f)))
    · exact Or.inr (Or.inr (Or.inr ((od c).mp f)))
  have r : Rg (s 1) (s 1) (fun k => k) (dfI I b n mc) b t := by
    refine ⟨?_, ?_, ?_, ?_, ?_, ?_, ?_, ?_, ?_, ?_, ?_, ?_, ?_, ?_⟩
    · unfold IvH at *
      rw [z0, z1, z2, z3, gl 8 (by omega) (by omega), gl 9 (by omega) (by omega), gl 10 (by omega) (by omega), gl 11 (by omega) (by omega)]
      exact ⟨hH.1, hH.2.1, by omega, hH.2.2.2⟩
    · intro k a1 a2
      rw [z0, gl _ (by omega) (by omega), gl _ (by omega) (by omega)]; exact hN k a1 a2
    · intro m k a1 a2 a3 a4
      rw [z2] at a2
      have e := gm m (8 + k) a1 a2 (by omega) (by omega)
      rw [show 63 + 16 * m + (8 + k) = 63 + 16 * m + 8 + k by omega, show 63 + 16 * (m + 1) + (8 + k) = 63 + 16 * (m + 1) + 8 + k by omega] at e
      rw [z0, gm m k a1 a2 a3 (by omega), e]
      exact hM (m + 1) k (by omega) (by omega) a3 a4
    · intro k a1 a2
      rw [z3] at a2
      have := hO k a1 a2
      rw [z0, z2, go k 0 a1 (by omega) (by omega) (by omega), go k 1 a1 (by omega) (by omega) (by omega), go k 2 a1 (by omega) (by omega) (by omega), go k 3 a1 (by omega) (by omega) (by omega), g5 k a1 (by omega)]
      omega
    · refine ⟨fun j k a1 a2 a3 => ?_, fun k j a1 a2 a3 => ?_, fun m i k a1 a2 a3 a4 a5 a6 a7 => ?_⟩
      · rw [z3] at a3
        have := hQ.1 j k a1 a2 a3
        rw [g5 j a1 (by omega), g5 k (by omega) (by omega), go j 1 a1 (by omega) (by omega) (by omega), go k 1 (by omega) (by omega) (by omega) (by omega)]
        exact ⟨by omega, this.2⟩
      · rw [z3] at a3
        rw [go k 2 a1 (by omega) (by omega) (by omega), go k 3 a1 (by omega) (by omega) (by omega), go j 1 (by omega) (by omega) (by omega) (by omega)]
        exact hQ.2.1 k j a1 a2 a3
      · rw [z3] at a6
        rw [z2] at a2
        rw [g5 k a5 (by omega)] at a7
        rw [gm m i a1 a2 a3 (by omega), go k 1 a5 (by omega) (by omega) (by omega)]
        exact hQ.2.2 (m + 1) i k (by omega) (by omega) a3 a4 a5 a6 (by omega)
    · intro c a1 a2
      rw [z0] at a2
      rw [gl _ (by omega) (by omega)]
      exact ⟨(hW c a1 a2).1, fun z => (hW c a1 a2).2 (nd c z)⟩
    · intro c a1 a2
      rw [gl _ (by omega) (by omega)]; exact hV c a1 a2
    · unfold EqH at *
      rw [Jb, J (b + 1) (by omega) (by omega) (by omega), z0, z1, z2, gl 5 (by omega) (by omega), gl 8 (by omega) (by omega), gl 9 (by omega) (by omega), gl 10 (by omega) (by omega), gl 11 (by omega) (by omega), fset_ne _ _ (by omega), fset_ne _ _ (by omega), fset_ne _ _ (by omega), fset_at]
      exact ⟨eH.1, eH.2.1, eH.2.2.1, by omega, eH.2.2.2.2⟩
    · intro k a1 a2
      rw [J _ (by omega) (by omega) (by omega), J _ (by omega) (by omega) (by omega), gl _ (by omega) (by omega), gl _ (by omega) (by omega)]; exact eN k a1 a2
    · intro m a1 a2 k a3 a4
      rw [z2] at a2
      have e := gm m (8 + k) a1 a2 (by omega) (by omega)
      rw [show 63 + 16 * m + (8 + k) = 63 + 16 * m + 8 + k by omega, show 63 + 16 * (m + 1) + (8 + k) = 63 + 16 * (m + 1) + 8 + k by omega] at e
      have q := JM m a1 (by omega) k a3 a4
      rw [q.1, q.2, gm m k a1 a2 a3 (by omega), e]
      exact eM (m + 1) (by omega) (by omega) k a3 a4
    · intro k a1 a2
      rw [z3] at a2
      have e := eO k a1 a2
      simp only at e ⊢
      rw [J _ (by omega) (by omega) (by omega), J _ (by omega) (by omega) (by omega), J _ (by omega) (by omega) (by omega), J _ (by omega) (by omega) (by omega), J14 k a1 (by omega), go k 0 a1 (by omega) (by omega) (by omega), go k 1 a1 (by omega) (by omega) (by omega), go k 2 a1 (by omega) (by omega) (by omega), go k 3 a1 (by omega) (by omega) (by omega), g5 k a1 (by omega)]
      refine ⟨e.1, e.2.1, e.2.2.1, e.2.2.2.1, ?_⟩
      rw [e.2.2.2.2]; omega
    · intro c a1 a2 a3
      rw [z0] at a2
      have q := eC c a1 a2 (nd c a3)
      unfold chR at *
      rw [J (b + 8) (by omega) (by omega) (by omega), Jb, fset_ne (I b) _ (show (5 : Int) ≠ 6 by omega), J (b + 6) (by omega) (by omega) (by omega), J (b + 7) (by omega) (by omega) (by omega), gl (28 + 5 * c + 4) (by omega) (by omega), gl (28 + 5 * c + 3) (by omega) (by omega), gl (28 + 5 * c + 2) (by omega) (by omega), gl (28 + 5 * c + 1) (by omega) (by omega), gl 7 (by omega) (by omega), od c]
      exact q
    · intro k a1 a2
      rw [z3] at a2
      have q := eD k a1 a2
      have o := hO k a1 a2
      unfold orR at *
      rw [J (b + 6) (by omega) (by omega) (by omega), J (b + 7) (by omega) (by omega) (by omega), go k 0 a1 (by omega) (by omega) (by omega), go k 1 a1 (by omega) (by omega) (by omega), go k 2 a1 (by omega) (by omega) (by omega), go k 3 a1 (by omega) (by omega) (by omega), go k 4 a1 (by omega) (by omega) (by omega), gl (28 + 5 * s (111 + 7 * k + 2) + 2) (by omega) (by omega), gl (28 + 5 * s (111 + 7 * k + 3) + 2) (by omega) (by omega)]
      exact q
    · intro c a1 a2
      rw [J (b + 6) (by omega) (by omega) (by omega), J (b + 7) (by omega) (by omega) (by omega)]; exact hR c a1 a2
  have fr := frees_R r (n := n) (m := mc - 1) (nc := nc) (z3.trans hn) (by rw [z2]; omega) (z0.trans hc)
  have k : ∀ i : Int, i < 12 → frM t n (mc - 1) nc i = t i := fun i hi => frM_nei nc (fun c _ _ => by omega)
  refine ⟨?_, fr.2, ?_, ?_, ?_⟩
  · rw [k 1 (by omega), z1]; exact fr.1
  · rw [J (b + 9) (by omega) (by omega) (by omega), k 3 (by omega), z3]; exact hz
  · rw [Jb, fset_ne _ _ (by omega), k 4 (by omega), gl 4 (by omega) (by omega)]; exact hd
  · rw [Jb, fset_ne _ _ (by omega), k 6 (by omega), gl 6 (by omega) (by omega)]; exact hsat
theorem dropF_at {f : Int → Int} {y : Int} : ∀ n : Nat, dropF f y n ≤ n ∧ (0 < dropF f y n → f ((dropF f y n : Nat) - 1 : Int) ≤ y) ∧ (∀ j : Int, (dropF f y n : Int) ≤ j → j < n → y < f j) := by
  intro n
  induction n with
  | zero => exact ⟨Nat.le_refl _, fun h => absurd h (by simp [dropF]), fun j _ h => by omega⟩
  | succ n ih =>
    rw [dropF]
    by_cases q : y < f n
    · rw [if_pos q]
      refine ⟨by omega, ih.2.1, fun j a1 a2 => ?_⟩
      by_cases e : j = (n : Int)
      · rw [e]; exact q
      · exact ih.2.2 j a1 (by omega)
    · rw [if_neg q]
      refine ⟨Nat.le_refl _, fun _ => ?_, fun j a1 a2 => by omega⟩
      rw [show (((n + 1 : Nat) : Int) - 1) = (n : Int) by omega]; omega
theorem bkD_at {y : Int} {k0 : Nat} : ∀ f : Nat, ∀ (s : Int → Int) (n k : Nat), f + k = n → k ≤ k0 → k0 ≤ n → s 3 = n → (∀ j : Int, 0 ≤ j → j < k0 → s (111 + 7 * j + 5) ≤ y) → (∀ j : Int, (k0 : Int) ≤ j → j < n → y < s (111 + 7 * j + 5)) →
    (bkD y f s n k).2 = k0 ∧ (bkD y f s n k).1 3 = k0 ∧ ∀ i : Int, i ≠ 3 → i < 111 + 7 * (k0 : Int) → (bkD y f s n k).1 i = s i := by
  intro f
  induction f with
  | zero =>
    intro s n k h1 h2 h3 h4 _ _
    have : k0 = n := by omega
    subst this
    exact ⟨rfl, h4, fun i _ _ => rfl⟩
  | succ f ih =>
    intro s n k h1 h2 h3 h4 h5 h6
    rw [bkD]
    by_cases q : k < k0
    · rw [if_neg (by have := h5 k (by omega) (by omega); omega)]
      exact ih s n (k + 1) (by omega) (by omega) h3 h4 h5 h6
    · have e : k = k0 := by omega
      subst e
      rw [if_pos (h6 k (by omega) (by omega))]
      have d3 : drS s n k 3 = ((n - 1 : Nat) : Int) := by unfold drS drJ; rw [if_pos rfl]; omega
      have dl : ∀ i : Int, i ≠ 3 → i < 111 + 7 * (k : Int) → drS s n k i = s i := fun i a1 a2 => by
        unfold drS drJ; rw [if_neg a1, if_neg (by omega)]
      have dh : ∀ j : Int, (k : Int) ≤ j → j < (n : Int) - 1 → drS s n k (111 + 7 * j + 5) = s (111 + 7 * (j + 1) + 5) := fun j a1 a2 => by
        unfold drS drJ; rw [if_neg (by omega), if_pos (by omega), show 111 + 7 * j + 5 + 7 = 111 + 7 * (j + 1) + 5 by omega]
      have := ih (drS s n k) (n - 1) k (by omega) (by omega) (by omega) d3 (fun j a1 a2 => by rw [dl _ (by omega) (by omega)]; exact h5 j a1 a2) (fun j a1 a2 => by rw [dh j a1 (by omega)]; exact h6 (j + 1) (by omega) (by omega))
      exact ⟨this.1, this.2.1, fun i a1 a2 => by rw [this.2.2 i a1 a2, dl i a1 a2]⟩
/-- goes back to the mark y -/
theorem back_R {I : mIt} {b n mc nc : Nat} {s : Int → Int} {y : Int} (h : RR I b s) (hn : s 3 = n) (hm : s 2 = mc) (hc : s 0 = nc) (y0 : 0 ≤ y) (y1 : y < mc) : gbV I b n mc y = bkV s n mc y ∧ RR (gbI I b n mc y) b (bkS s n mc nc y) := by
  obtain ⟨⟨hH, hN, hM, hO, hQ, hW, hV, eH, eN, eM, eO, eC, eD, hR⟩, hX, hz, hd, hsat⟩ := h
  have h7 := hH.1
  have hm3 := hH.2.2.1
  have hn6 := hH.2.2.2.1
  obtain ⟨k1, k2, k3⟩ := dropF_at (f := I (b + 14)) (y := y) n
  have e14 : ∀ k : Int, 0 ≤ k → k < n → I (b + 14) k = s (111 + 7 * k + 5) := fun k a1 a2 => (eO k a1 (by omega)).2.2.2.2
  have lo : ∀ j : Int, 0 ≤ j → j < (dropF (I (b + 14)) y n : Int) → s (111 + 7 * j + 5) ≤ y := fun j a1 a2 => by
    have := k2 (by omega)
    rw [e14 _ (by omega) (by omega)] at this
    by_cases e : j = (dropF (I (b + 14)) y n : Int) - 1
    · rw [e]; exact this
    · have := (hQ.1 j ((dropF (I (b + 14)) y n : Int) - 1) a1 (by omega) (by omega)).1
      omega
  have hi : ∀ j : Int, (dropF (I (b + 14)) y n : Int) ≤ j → j < n → y < s (111 + 7 * j + 5) := fun j a1 a2 => by
    have := k3 j a1 a2
    rw [e14 j (by omega) a2] at this
    exact this
  have eG : gbI I b n mc y = mUp (mUp (cpy (cpy I (b + 3) 8 (I (mC b y))) (b + 4) 8 (I (mH b y))) b 6 y) (b + 9) 0 (dropF (I (b + 14)) y n : Nat) := by unfold gbI; rw [if_pos ⟨y0, y1⟩]
  have cC : ∀ i : Int, (i < 12 ∨ 28 ≤ i) → bkC s y 16 i = s i := fun i q => by unfold bkC; rw [if_neg (by omega)]
  have cN : ∀ k : Int, 0 ≤ k → k < 8 → bkC s y 16 (12 + k) = s (63 + 16 * y + k) ∧ bkC s y 16 (20 + k) = s (63 + 16 * y + 8 + k) := fun k a1 a2 => by
    unfold bkC
    rw [if_pos (by omega), if_pos (by omega), show 63 + 16 * y + (12 + k - 12) = 63 + 16 * y + k by omega, show 63 + 16 * y + (20 + k - 12) = 63 + 16 * y + 8 + k by omega]
    exact ⟨rfl, rfl⟩
  generalize hk0 : dropF (I (b + 14)) y n = k0 at k1 k2 k3 lo hi eG
  have bd := bkD_at (y := y) (k0 := k0) n (bkC s y 16) n 0 (by omega) (by omega) k1 (by rw [cC 3 (by omega)]; exact hn) (fun j a1 a2 => by rw [cC _ (by omega)]; exact lo j a1 a2) (fun j a1 a2 => by rw [cC _ (by omega)]; exact hi j a1 a2)
  change bkN s n y = k0 ∧ bkT s n y 3 = k0 ∧ (∀ i : Int, i ≠ 3 → i < 111 + 7 * (k0 : Int) → bkT s n y i = bkC s y 16 i) at bd
  obtain ⟨b1, b2, b3⟩ := bd
  refine ⟨?_, ?_⟩
  · unfold gbV bkV
    rw [if_pos ⟨y0, y1⟩, if_pos ⟨y0, y1⟩, b1, hk0]
  unfold bkS
  rw [b1]
  have g : ∀ i : Int, i ≠ 2 → i ≠ 3 → (i < 12 ∨ 28 ≤ i) → i < 111 + 7 * (k0 : Int) → fset (bkT s n y) 2 y i = s i := fun i q1 q2 q3 q4 => by rw [fset_ne _ _ q1, b3 i q2 q4, cC i q3]
  have gn : ∀ k : Int, 0 ≤ k → k < 8 → fset (bkT s n y) 2 y (12 + k) = s (63 + 16 * y + k) ∧ fset (bkT s n y) 2 y (20 + k) = s (63 + 16 * y + 8 + k) := fun k a1 a2 => by
    rw [fset_ne _ _ (by omega), fset_ne _ _ (by omega), b3 _ (by omega) (by omega), b3 _ (by omega) (by omega)]; exact cN k a1 a2
  have z2 : fset (bkT s n y) 2 y 2 = y := fset_at _ _ _
  have z3 : fset (bkT s n y) 2 y 3 = k0 := by rw [fset_ne _ _ (by omega)]; exact b2
  generalize fset (bkT s n y) 2 y = t at g gn z2 z3 ⊢
  have z0 := g 0 (by omega) (by omega) (by omega) (by omega)
  have z1 := g 1 (by omega) (by omega) (by omega) (by omega)
  have go : ∀ k w : Int, 0 ≤ k → k < k0 → 0 ≤ w → w < 7 → t (111 + 7 * k + w) = s (111 + 7 * k + w) := fun k w a1 a2 a3 a4 => g _ (by omega) (by omega) (by omega) (by omega)
  have gc : ∀ c w : Int, 0 ≤ c → 0 ≤ w → w ≤ 4 → c < 7 → t (28 + 5 * c + w) = s (28 + 5 * c + w) := fun c w a1 a2 a3 a4 => g _ (by omega) (by omega) (by omega) (by omega)
  have gm : ∀ m k : Int, 0 ≤ m → m < y → 0 ≤ k → k < 16 → t (63 + 16 * m + k) = s (63 + 16 * m + k) := fun m k a1 a2 a3 a4 => g _ (by omega) (by omega) (by omega) (by omega)
  -- the room
  have J : ∀ x : Nat, x ≠ b → x ≠ b + 3 → x ≠ b + 4 → x ≠ b + 9 → gbI I b n mc y x = I x := fun x q0 q3 q4 q9 => by
    rw [eG, mUp_ne _ _ _ q9, mUp_ne _ _ _ q0, cpy_ne _ _ _ q4, cpy_ne _ _ _ q3]
  have Jb : gbI I b n mc y b = fset (I b) 6 y := by
    rw [eG, mUp_ne _ _ _ (by omega), mUp_at, cpy_ne _ _ _ (by omega), cpy_ne _ _ _ (by omega)]
  have Jn : ∀ k : Int, 0 ≤ k → k < 8 → gbI I b n mc y (b + 3) k = I (mC b y) k ∧ gbI I b n mc y (b + 4) k = I (mH b y) k := fun k a1 a2 => by
    rw [eG, mUp_ne _ _ _ (by omega), mUp_ne _ _ _ (by omega), mUp_ne _ _ _ (by omega), mUp_ne _ _ _ (by omega), cpy_ne _ _ _ (by omega), cpy_in _ _ a1 (by omega), cpy_in _ _ a1 (by omega)]
    exact ⟨rfl, rfl⟩
  have J9 : gbI I b n mc y (b + 9) 0 = k0 := by rw [eG, mUp_at, fset_at]
  -- what is needed still
  have odt : ∀ c, ordP t c → ordP s c := by
    rintro c ⟨k, a1, a2, f⟩
    rw [z3] at a2
    exact ⟨k, a1, by omega, by rw [← go k 1 a1 a2 (by omega) (by omega)]; exact f⟩
  have nd : ∀ c, 0 ≤ c → need t c → need s c := by
    rintro c c0 (⟨k, a1, a2, f⟩ | ⟨m, a1, a2, k, a3, a4, f⟩ | ⟨k, a1, a2, f⟩ | f)
    · rw [(gn k a1 a2).1] at f
      exact Or.inr (Or.inl ⟨y, y0, by omega, k, a1, a2, f⟩)
    · rw [z2] at a2
      rw [gm m k a1 a2 a3 (by omega)] at f
      exact Or.inr (Or.inl ⟨m, a1, by omega, k, a3, a4, f⟩)
    · rw [z3] at a2
      rw [go k 2 a1 a2 (by omega) (by omega), go k 3 a1 a2 (by omega) (by omega)] at f
      exact Or.inr (Or.inr (Or.inl ⟨k, a1, by omega, f⟩))
    · exact Or.inr (Or.inr (Or.inr (odt c f)))
  have od : ∀ c, 0 ≤ c → need t c → ordP s c → ordP t c := by
    rintro c c0 nt ⟨j, j0, j1, f⟩
    by_cases hj : j < k0
    · exact ⟨j, j0, by omega, by rw [go j 1 j0 hj (by omega) (by omega)]; exact f⟩
    · exfalso
      have hs := hi j (by omega) (by omega)
      rcases nt with ⟨k, a1, a2, e⟩ | ⟨m, a1, a2, k, a3, a4, e⟩ | ⟨k, a1, a2, e⟩ | ⟨k, a1, a2, e⟩
      · rw [(gn k a1 a2).1] at e
        exact hQ.2.2 y k j y0 (by omega) a1 a2 j0 j1 hs (by omega)
      · rw [z2] at a2
        rw [gm m k a1 a2 a3 (by omega)] at e
        exact hQ.2.2 m k j a1 (by omega) a3 a4 j0 j1 (by omega) (by omega)
      · rw [z3] at a2
        rw [go k 2 a1 a2 (by omega) (by omega), go k 3 a1 a2 (by omega) (by omega)] at e
        have := hQ.2.1 k j a1 (by omega) j1
        omega
      · rw [z3] at a2
        rw [go k 1 a1 a2 (by omega) (by omega)] at e
        have := (hQ.1 k j a1 (by omega) j1).2
        omega
  have r : Rg (s 1) (s 1) (fun k => k) (gbI I b n mc y) b t := by
    refine ⟨?_, ?_, ?_, ?_, ?_, ?_, ?_, ?_, ?_, ?_, ?_, ?_, ?_, ?_⟩
    · unfold IvH at *
      rw [z0, z1, z2, z3, g 8 (by omega) (by omega) (by omega) (by omega), g 9 (by omega) (by omega) (by omega) (by omega), g 10 (by omega) (by omega) (by omega) (by omega), g 11 (by omega) (by omega) (by omega) (by omega)]
      exact ⟨hH.1, hH.2.1, by omega, by omega, hH.2.2.2.2⟩
    · intro k a1 a2
      rw [z0, (gn k a1 a2).1, (gn k a1 a2).2]; exact hM y k y0 (by omega) a1 a2
    · intro m k a1 a2 a3 a4
      rw [z2] at a2
      have e := gm m (8 + k) a1 a2 (by omega) (by omega)
      rw [show 63 + 16 * m + (8 + k) = 63 + 16 * m + 8 + k by omega] at e
      rw [z0, gm m k a1 a2 a3 (by omega), e]; exact hM m k a1 (by omega) a3 a4
    · intro k a1 a2
      rw [z3] at a2
      have := hO k a1 (by omega)
      have := lo k a1 a2
      rw [z0, z2, go k 0 a1 a2 (by omega) (by omega), go k 1 a1 a2 (by omega) (by omega), go k 2 a1 a2 (by omega) (by omega), go k 3 a1 a2 (by omega) (by omega), go k 5 a1 a2 (by omega) (by omega)]
      omega
    · refine ⟨fun j k a1 a2 a3 => ?_, fun k j a1 a2 a3 => ?_, fun m i k a1 a2 a3 a4 a5 a6 a7 => ?_⟩
      · rw [z3] at a3
        rw [go j 5 a1 (by omega) (by omega) (by omega), go j 1 a1 (by omega) (by omega) (by omega), go k 5 (by omega) a3 (by omega) (by omega), go k 1 (by omega) a3 (by omega) (by omega)]
        exact hQ.1 j k a1 a2 (by omega)
      · rw [z3] at a3
        rw [go k 2 a1 (by omega) (by omega) (by omega), go k 3 a1 (by omega) (by omega) (by omega), go j 1 (by omega) a3 (by omega) (by omega)]
        exact hQ.2.1 k j a1 a2 (by omega)
      · rw [z3] at a6
        rw [z2] at a2
        rw [go k 5 a5 a6 (by omega) (by omega)] at a7
        rw [gm m i a1 a2 a3 (by omega), go k 1 a5 a6 (by omega) (by omega)]
        exact hQ.2.2 m i k a1 (by omega) a3 a4 a5 (by omega) a7
    · intro c a1 a2
      rw [z0] at a2
      rw [gc c 0 a1 (by omega) (by omega) (by omega)]
      exact ⟨(hW c a1 a2).1, fun z => (hW c a1 a2).2 (nd c a1 z)⟩
    · intro c a1 a2
      rw [gc c 1 a1 (by omega) (by omega) a2]; exact hV c a1 a2
    · unfold EqH at *
      rw [Jb, J (b + 1) (by omega) (by omega) (by omega) (by omega), z0, z1, z2, g 5 (by omega) (by omega) (by omega) (by omega), g 8 (by omega) (by omega) (by omega) (by omega), g 9 (by omega) (by omega) (by omega) (by omega), g 10 (by omega) (by omega) (by omega) (by omega), g 11 (by omega) (by omega) (by omega) (by omega), fset_ne _ _ (by omega), fset_ne _ _ (by omega), fset_ne _ _ (by omega), fset_at]
      exact ⟨eH.1, eH.2.1, eH.2.2.1, rfl, eH.2.2.2.2⟩
    · intro k a1 a2
      rw [(Jn k a1 a2).1, (Jn k a1 a2).2, (gn k a1 a2).1, (gn k a1 a2).2]; exact eM y y0 (by omega) k a1 a2
    · intro m a1 a2 k a3 a4
      rw [z2] at a2
      have e := gm m (8 + k) a1 a2 (by omega) (by omega)
      rw [show 63 + 16 * m + (8 + k) = 63 + 16 * m + 8 + k by omega] at e
      rw [J (mC b m) (by unfold mC; omega) (by unfold mC; omega) (by unfold mC; omega) (by unfold mC; omega), J (mH b m) (by unfold mH; omega) (by unfold mH; omega) (by unfold mH; omega) (by unfold mH; omega), gm m k a1 a2 a3 (by omega), e]
      exact eM m a1 (by omega) k a3 a4
    · intro k a1 a2
      rw [z3] at a2
      rw [J _ (by omega) (by omega) (by omega) (by omega), J _ (by omega) (by omega) (by omega) (by omega), J _ (by omega) (by omega) (by omega) (by omega), J _ (by omega) (by omega) (by omega) (by omega), J _ (by omega) (by omega) (by omega) (by omega), go k 0 a1 a2 (by omega) (by omega), go k 1 a1 a2 (by omega) (by omega), go k 2 a1 a2 (by omega) (by omega), go k 3 a1 a2 (by omega) (by omega), go k 5 a1 a2 (by omega) (by omega)]
      exact eO k a1 (by omega)
    · intro c a1 a2 a3
      rw [z0] at a2
      have q := eC c a1 a2 (nd c a1 a3)
      have e : ordP t c ↔ ordP s c := ⟨odt c, od c a1 a3⟩
      unfold chR at *
      rw [J (b + 8) (by omega) (by omega) (by omega) (by omega), Jb, fset_ne (I b) _ (show (5 : Int) ≠ 6 by omega), J (b + 6) (by omega) (by omega) (by omega) (by omega), J (b + 7) (by omega) (by omega) (by omega) (by omega), gc c 4 a1 (by omega) (by omega) (by omega), gc c 3 a1 (by omega) (by omega) (by omega), gc c 2 a1 (by omega) (by omega) (by omega), gc c 1 a1 (by omega) (by omega) (by omega), g 7 (by omega) (by omega) (by omega) (by omega), e]
      exact q
    · intro k a1 a2
      rw [z3] at a2
      have q := eD k a1 (by omega)
      have o := hO k a1 (by omega)
      unfold orR at *
      rw [J (b + 6) (by omega) (by omega) (by omega) (by omega), J (b + 7) (by omega) (by omega) (by omega) (by omega), go k 0 a1 a2 (by omega) (by omega), go k 1 a1 a2 (by omega) (by omega), go k 2 a1 a2 (by omega) (by omega), go k 3 a1 a2 (by omega) (by omega), go k 4 a1 a2 (by omega) (by omega), gc (s (111 + 7 * k + 2)) 2 (by omega) (by omega) (by omega) (by omega), gc (s (111 + 7 * k + 3)) 2 (by omega) (by omega) (by omega) (by omega)]
      exact q
    · intro c a1 a2
      rw [J (b + 6) (by omega) (by omega) (by omega) (by omega), J (b + 7) (by omega) (by omega) (by omega) (by omega)]; exact hR c a1 a2
  have fr := frees_R r (n := k0) (m := y.toNat) (nc := nc) z3 (by rw [z2]; omega) (z0.trans hc)
  have k : ∀ i : Int, i < 12 → frM t k0 y.toNat nc i = t i := fun i hi => frM_nei nc (fun c _ _ => by omega)
  refine ⟨?_, fr.2, ?_, ?_, ?_⟩
  · rw [k 1 (by omega), z1]; exact fr.1
  · rw [J9, k 3 (by omega), z3]
  · rw [Jb, fset_ne _ _ (by omega), k 4 (by omega), g 4 (by omega) (by omega) (by omega) (by omega)]; exact hd
  · rw [Jb, fset_ne _ _ (by omega), k 6 (by omega), g 6 (by omega) (by omega) (by omega) (by omega)]; exact hsat
