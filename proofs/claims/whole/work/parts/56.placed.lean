/-! ===== the mathematics: a new version lies on its chair ===== -/
theorem pl_J {I J : mIt} {b : Nat} {x v kn u name y : Int} (h0 : 0 ≤ x) (h1 : x < 7) (hJ : J = mUp (vPlace I (b + 6) (b + 7) (b + 8) x v kn u) (b + 3) name y) :
    J (b + 3) = fset (I (b + 3)) name y ∧ J (b + 6) = fset (I (b + 6)) x v ∧ J (b + 7) = fset (I (b + 7)) x kn ∧ J (b + 8) = fset (I (b + 8)) x u ∧ (∀ z : Nat, z ≠ b + 3 → z ≠ b + 6 → z ≠ b + 7 → z ≠ b + 8 → J z = I z) := by
  subst hJ
  rw [vPlace, if_pos ⟨h0, h1⟩]
  refine ⟨?_, ?_, ?_, ?_, fun z q1 q2 q3 q4 => ?_⟩
  · rw [mUp_at, mUp_ne _ _ _ (by omega), mUp_ne _ _ _ (by omega), mUp_ne _ _ _ (by omega)]
  · rw [mUp_ne _ _ _ (by omega), mUp_ne _ _ _ (by omega), mUp_ne _ _ _ (by omega), mUp_at]
  · rw [mUp_ne _ _ _ (by omega), mUp_ne _ _ _ (by omega), mUp_at, mUp_ne _ _ _ (by omega)]
  · rw [mUp_ne _ _ _ (by omega), mUp_at, mUp_ne _ _ _ (by omega), mUp_ne _ _ _ (by omega)]
  · rw [mUp_ne _ _ _ q1, mUp_ne _ _ _ q4, mUp_ne _ _ _ q3, mUp_ne _ _ _ q2]
/-- what is written when a version is placed -/
def plT (s : Int → Int) (name x v k2 at_ : Int) : Int → Int := fset (fset (fset (fset (fset (fset s (12 + name) x) (28 + 5 * x + 0) 1) (28 + 5 * x + 1) v) (28 + 5 * x + 2) k2) (28 + 5 * x + 3) at_) (28 + 5 * x + 4) (s 7)
theorem plT_ne {s : Int → Int} {name x v k2 at_ i : Int} (h1 : i ≠ 12 + name) (h2 : i < 28 + 5 * x ∨ 28 + 5 * x + 4 < i) : plT s name x v k2 at_ i = s i := by
  unfold plT
  rw [fset_ne _ _ (by omega), fset_ne _ _ (by omega), fset_ne _ _ (by omega), fset_ne _ _ (by omega), fset_ne _ _ (by omega), fset_ne _ _ h1]
theorem plT_x {s : Int → Int} {name x v k2 at_ : Int} (hx : 0 ≤ x) (hn : name ≤ 7) : plT s name x v k2 at_ (12 + name) = x ∧ plT s name x v k2 at_ (28 + 5 * x + 0) = 1 ∧ plT s name x v k2 at_ (28 + 5 * x + 1) = v ∧ plT s name x v k2 at_ (28 + 5 * x + 2) = k2 ∧ plT s name x v k2 at_ (28 + 5 * x + 3) = at_ ∧ plT s name x v k2 at_ (28 + 5 * x + 4) = s 7 := by
  unfold plT
  refine ⟨?_, ?_, ?_, ?_, ?_, ?_⟩
  · rw [fset_ne _ _ (by omega), fset_ne _ _ (by omega), fset_ne _ _ (by omega), fset_ne _ _ (by omega), fset_ne _ _ (by omega), fset_at]
  · rw [fset_ne _ _ (by omega), fset_ne _ _ (by omega), fset_ne _ _ (by omega), fset_ne _ _ (by omega), fset_at]
  · rw [fset_ne _ _ (by omega), fset_ne _ _ (by omega), fset_ne _ _ (by omega), fset_at]
  · rw [fset_ne _ _ (by omega), fset_ne _ _ (by omega), fset_at]
  · rw [fset_ne _ _ (by omega), fset_at]
  · rw [fset_at]
theorem placed_R {I J : mIt} {b : Nat} {s t : Int → Int} {name x v kn k2 at_ : Int} (h : RX x I b s) (n0 : 0 ≤ name) (n7 : name ≤ 7) (hst : s (12 + name) = -1) (hJ : J = mUp (vPlace I (b + 6) (b + 7) (b + 8) x v kn (I b 5)) (b + 3) name x) (ht : t = plT s name x v k2 at_)
    (v0 : 0 ≤ v) (v1 : v ≤ 9999) (hk : (k2 = 1 ∧ at_ = -1 ∧ 0 ≤ kn ∧ kn ≤ s 1) ∨ (k2 = 0 ∧ kn = at_ ∧ s 1 < at_ ∧ at_ ≤ s 1 + 9)) : RR J b t := by
  obtain ⟨⟨hH, hN, hM, hO, hQ, hW, hV, eH, eN, eM, eO, eC, eD, hR⟩, ⟨x0, x1⟩, hnd, hX, hz, hd, hsat⟩ := h
  have h7 := hH.1
  obtain ⟨J3, J6, J7, J8, Jz⟩ := pl_J x0 (by omega) hJ
  have Jb := Jz b (by omega) (by omega) (by omega) (by omega)
  have J4 := Jz (b + 4) (by omega) (by omega) (by omega) (by omega)
  have J9 := Jz (b + 9) (by omega) (by omega) (by omega) (by omega)
  obtain ⟨tx0, tx1, tx2, tx3, tx4, tx5⟩ := plT_x (s := s) (name := name) (x := x) (v := v) (k2 := k2) (at_ := at_) x0 n7
  rw [← ht] at tx0 tx1 tx2 tx3 tx4 tx5
  have g : ∀ i : Int, i ≠ 12 + name → (i < 28 + 5 * x ∨ 28 + 5 * x + 4 < i) → t i = s i := fun i q r => by rw [ht]; exact plT_ne q r
  have gl : ∀ i : Int, i < 12 → t i = s i := fun i q => g i (by omega) (by omega)
  have gh : ∀ i : Int, 63 ≤ i → t i = s i := fun i q => g i (by omega) (by omega)
  have g0 := gl 0 (by omega)
  have pc := fun c => pin_congr (s := s) (t := t) (gl 2 (by omega)) (gl 3 (by omega)) gh c
  have ndx : need t x := Or.inl ⟨name, n0, by omega, tx0⟩
  have ndc : ∀ c : Int, 0 ≤ c → c ≠ x → (need t c ↔ need s c) := by
    intro c c0 cx
    unfold need
    rw [(pc c).1]
    have : hadP t c ↔ hadP s c := by
      constructor
      · rintro ⟨k, a1, a2, f⟩
        by_cases q : k = name
        · rw [q, tx0] at f; exact absurd f.symm cx
        · exact ⟨k, a1, a2, by rw [← g _ (by omega) (by omega)]; exact f⟩
      · rintro ⟨k, a1, a2, f⟩
        have q : k ≠ name := by intro z; rw [z] at f; omega
        exact ⟨k, a1, a2, by rw [g _ (by omega) (by omega)]; exact f⟩
    rw [this]
  have npx : ¬ ordP t x := fun z => hnd (Or.inr (Or.inr (Or.inr ((pc x).2.mp z))))
  have ox : ∀ k : Int, 0 ≤ k → k < s 3 → s (111 + 7 * k + 1) ≠ x ∧ s (111 + 7 * k + 2) ≠ x ∧ s (111 + 7 * k + 3) ≠ x := fun k a1 a2 =>
    ⟨fun z => hnd (Or.inr (Or.inr (Or.inr ⟨k, a1, a2, z⟩))), fun z => hnd (Or.inr (Or.inr (Or.inl ⟨k, a1, a2, Or.inl z⟩))), fun z => hnd (Or.inr (Or.inr (Or.inl ⟨k, a1, a2, Or.inr z⟩)))⟩
  obtain ⟨kH, kM, kO, kQ, kE, kEM, kEO⟩ := keepMO (J := J) (t := t) hH hM hO hQ eH eM eO gh ⟨gl _ (by omega), gl _ (by omega), gl _ (by omega), gl _ (by omega), gl _ (by omega), gl _ (by omega), gl _ (by omega), gl _ (by omega)⟩ (fun y _ q2 _ q4 q5 q6 => Jz y q2 q4 q5 q6) ⟨by rw [Jb], by rw [Jb], by rw [Jb, gl 5 (by omega)]; exact eH.2.2.1, by rw [Jb]⟩
  have gc : ∀ c w : Int, c ≠ x → 0 ≤ w → w ≤ 4 → 0 ≤ c → t (28 + 5 * c + w) = s (28 + 5 * c + w) := fun c w q w0 w1 c0 => g _ (by omega) (by omega)
  refine ⟨⟨kH, ?_, kM, kO, kQ, ?_, ?_, kE, ?_, kEM, kEO, ?_, ?_, ?_⟩, ?_, ?_, ?_, ?_⟩
  · intro k a1 a2
    have := hN k a1 a2
    rw [g0, g (20 + k) (by omega) (by omega)]
    by_cases q : k = name
    · rw [q, tx0]; rw [q] at this; omega
    · rw [g _ (by omega) (by omega)]; exact this
  · intro c a1 a2
    rw [g0] at a2
    by_cases q : c = x
    · rw [q, tx1]; exact ⟨Or.inr rfl, fun _ => rfl⟩
    · rw [gc c 0 q (by omega) (by omega) a1]
      exact ⟨(hW c a1 a2).1, fun z => (hW c a1 a2).2 ((ndc c a1 q).mp z)⟩
  · intro c a1 a2
    by_cases q : c = x
    · rw [q, tx2]; exact ⟨v0, v1⟩
    · rw [gc c 1 q (by omega) (by omega) a1]; exact hV c a1 a2
  · intro k a1 a2
    have := eN k a1 a2
    rw [J3, J4, g (20 + k) (by omega) (by omega)]
    by_cases q : k = name
    · rw [q, fset_at, tx0]; rw [q] at this; exact ⟨rfl, this.2⟩
    · rw [fset_ne _ _ q, g _ (by omega) (by omega)]; exact this
  · intro c a1 a2 a3
    rw [g0] at a2
    unfold chR
    rw [Jb, J8, J6, J7, gl 7 (by omega), gl 1 (by omega)]
    by_cases q : c = x
    · subst q
      rw [fset_at, fset_at, fset_at, tx2, tx3, tx4, tx5]
      refine ⟨by omega, Or.inr ⟨npx, rfl, ?_⟩⟩
      rcases hk with ⟨k1, k3, k4, k5⟩ | ⟨k1, k3, k4, k5⟩
      · exact Or.inl ⟨k1, k3, k5⟩
      · exact Or.inr ⟨k1, k3, k4, k5⟩
    · have r := eC c a1 a2 ((ndc c a1 q).mp a3)
      unfold chR at r
      rw [fset_ne _ _ q, fset_ne _ _ q, fset_ne _ _ q, gc c 4 q (by omega) (by omega) a1, gc c 3 q (by omega) (by omega) a1, gc c 2 q (by omega) (by omega) a1, gc c 1 q (by omega) (by omega) a1, (pc c).2]
      exact r
  · intro k a1 a2
    rw [gl 3 (by omega)] at a2
    have q := eD k a1 a2
    have o := hO k a1 a2
    obtain ⟨o1, o2, o3⟩ := ox k a1 a2
    unfold orR at *
    rw [J6, J7, gh (111 + 7 * k + 4) (by omega), gh (111 + 7 * k + 1) (by omega), gh (111 + 7 * k + 2) (by omega), gh (111 + 7 * k + 3) (by omega), gh (111 + 7 * k + 0) (by omega), fset_ne _ _ o1, fset_ne _ _ o1, fset_ne _ _ o2, fset_ne _ _ o3, gc _ 2 o2 (by omega) (by omega) (by omega), gc _ 2 o3 (by omega) (by omega) (by omega), gl 1 (by omega)]
    exact q
  · intro c a1 a2
    have := hR c a1 a2
    have hT := hH.2.1
    rw [J6, J7]
    by_cases q : c = x
    · rw [q, fset_at, fset_at]; omega
    · rw [fset_ne _ _ q, fset_ne _ _ q]; exact this
  · intro c a1 a2 a3
    rw [g0] at a2
    have q : c ≠ x := fun z => a3 (z ▸ ndx)
    rw [gc c 0 q (by omega) (by omega) a1]
    exact hX c a1 a2 q (fun z => a3 ((ndc c a1 q).mpr z))
  · rw [J9, gl 3 (by omega)]; exact hz
  · rw [Jb, gl 4 (by omega)]; exact hd
  · rw [Jb, gl 6 (by omega)]; exact hsat
