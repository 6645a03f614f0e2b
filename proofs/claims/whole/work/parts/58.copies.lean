/-! ===== the mathematics: names sit down, copies ===== -/
theorem sendI_up4 (I : mIt) (b : Nat) (c v w : Int) : sendI (mUp I b 4 w) b c v = mUp (sendI I b c v) b 4 w := by
  have e3 : mUp I b 4 w (b + 3) = I (b + 3) := mUp_ne _ _ _ (by omega)
  have e4 : mUp I b 4 w (b + 4) = I (b + 4) := mUp_ne _ _ _ (by omega)
  funext x
  unfold sendI sendF sendG
  rw [e3, e4]
  by_cases h0 : x = b
  · subst h0
    rw [cpy_ne _ _ _ (by omega), cpy_ne _ _ _ (by omega), mUp_at, mUp_at, mUp_at, cpy_ne _ _ _ (by omega), cpy_ne _ _ _ (by omega), mUp_at, fset_ne _ _ (by omega)]
    funext i
    simp only [fset]
    omega
  · by_cases h3 : x = b + 3
    · subst h3
      simp [cpy, mUp]
    · by_cases h4 : x = b + 4
      · subst h4
        simp [cpy, mUp]
      · rw [cpy_ne _ _ _ h4, cpy_ne _ _ _ h3, mUp_ne _ _ _ h0, mUp_ne _ _ _ h0, mUp_ne _ _ _ h0, cpy_ne _ _ _ h4, cpy_ne _ _ _ h3, mUp_ne _ _ _ h0]
theorem seatP_up4 (I : mIt) (b n mc nc : Nat) (one other w : Int) : seatP (mUp I b 4 w) b n mc nc one other = mUp (seatP I b n mc nc one other) b 4 w := by
  have e0 : seC0 (mUp I b 4 w) b n mc nc = seC0 I b n mc nc := by
    unfold seC0
    rw [tkn_congr n mc (fun x hx => mUp_ne _ _ _ (by omega)) (mUp_ne _ _ _ (by omega))]
  have e1 : seC1 (mUp I b 4 w) b n mc nc one other = seC1 I b n mc nc one other := by
    unfold seC1 cand
    rw [pinA_congr n mc (fun x hx => mUp_ne _ _ _ (by omega)), mUp_ne _ _ _ (show b + 3 ≠ b by omega), mUp_ne _ _ _ (show b + 7 ≠ b by omega), mUp_ne _ _ _ (show b + 8 ≠ b by omega), mUp_at, fset_ne _ _ (by omega)]
  unfold seatP
  rw [e0, e1, mUp_ne _ _ _ (show b + 6 ≠ b by omega)]
  split
  · rw [sendI_up4]
  · rfl
theorem stX_plT {S : Int → Int} {x name : Int} (x0 : 0 ≤ x) (n0 : 0 ≤ name) (n7 : name ≤ 7) : stX (gtS S x name) x name = plT (fset S 6 (S 6 + 1)) name x (S (20 + name)) (if S 10 = 0 then 1 else 0) (if S 10 = 0 then -1 else S 1 + S 10) := by
  have g : ∀ i : Int, i ≠ 12 + name → (i < 28 + 5 * x ∨ 28 + 5 * x + 4 < i) → gtS S x name i = S i := fun i h1 h2 => by
    unfold gtS
    rw [fset_ne _ _ (by omega), fset_ne _ _ (by omega), fset_ne _ _ (by omega), fset_ne _ _ (by omega), fset_ne _ _ (by omega), fset_ne _ _ h1]
  unfold stX
  rw [g 6 (by omega) (by omega), g (20 + name) (by omega) (by omega), g 10 (by omega) (by omega), g 1 (by omega) (by omega)]
  funext i
  simp only [gtS, plT, fset]
  omega
theorem sit_R {I : mIt} {b n mc nc : Nat} {s : Int → Int} {name one other one' other' : Int} (h : RR I b s) (hn : s 3 = n) (hm : s 2 = mc) (hc : s 0 = nc) (n0 : 0 ≤ name) (n7 : name ≤ 7) (hq : s (12 + name) = -1 → rdQ I b s one other one' other') (hb : 0 ≤ one' → one' ≤ 7 ∧ 0 ≤ other' ∧ other' ≤ 7) :
    (fsB I b n mc nc name one other = siB s n mc nc name one' other') ∧ (siB s n mc nc name one' other' = true → RR (fsI I b n mc nc name one other) b (siS s n mc nc name one' other') ∧ (0 ≤ siS s n mc nc name one' other' (12 + name) ∧ siS s n mc nc name one' other' (12 + name) < s 0) ∧
      (∀ k : Int, 0 ≤ k → k < 8 → 0 ≤ s (12 + k) → 0 ≤ one' → (k = one' ∨ k = other') → siS s n mc nc name one' other' (12 + k) = s (12 + k)) ∧ (∀ k : Int, 0 ≤ k → k < 8 → k ≠ name → s (12 + k) = -1 → siS s n mc nc name one' other' (12 + k) = -1)) := by
  have hN := h.1.2.1
  have eN := h.1.2.2.2.2.2.2.2.2.1
  have eH := h.1.2.2.2.2.2.2.2.1
  have hS := h.1.1.2.2.2.2.2.2.1
  have nm := hN name n0 (by omega)
  have en := eN name n0 (by omega)
  by_cases hs : s (12 + name) = -1
  · have f1 : fsB I b n mc nc name one other = decide (0 ≤ seatV I b n mc nc one other) := by
      unfold fsB
      apply decide_eq_decide.mpr
      rw [en.1]
      constructor
      · rintro (q | q)
        · exact absurd hs q
        · exact q
      · exact Or.inr
    have f2 : siB s n mc nc name one' other' = decide (0 ≤ cfV s n mc nc one' other') := by
      unfold siB
      apply decide_eq_decide.mpr
      constructor
      · rintro (q | q)
        · omega
        · exact q
      · exact Or.inr
    rw [f1, f2]
    rcases seat_R h hn hm hc (hq hs) hb with ⟨q1, q2⟩ | ⟨x, x0, ⟨e1, e2⟩, hx, hp, hr, hk⟩
    · rw [q1, q2]
      exact ⟨by decide, fun z => by cases z⟩
    · rw [e1, e2]
      refine ⟨rfl, fun _ => ?_⟩
      have lo : ∀ i : Int, i < 12 → i ≠ 5 → cfS s n mc nc one' other' i = s i := fun i a1 a2 => cfS_ne _ _ _ _ _ _ (by omega) a2
      have sx := hk name n0 (by omega) (by omega)
      have eT : siS s n mc nc name one' other' = plT (fset (cfS s n mc nc one' other') 6 (cfS s n mc nc one' other' 6 + 1)) name x (cfS s n mc nc one' other' (20 + name)) (if cfS s n mc nc one' other' 10 = 0 then 1 else 0) (if cfS s n mc nc one' other' 10 = 0 then -1 else cfS s n mc nc one' other' 1 + cfS s n mc nc one' other' 10) := by
        unfold siS getS
        rw [if_neg (by omega), e2, if_neg (by omega), if_neg (by omega), stX_plT x0.1 n0 n7]
      have eJ : fsI I b n mc nc name one other = mUp (vPlace (mUp (seatP I b n mc nc one other) b 4 (I b 4 + 1)) (b + 6) (b + 7) (b + 8) x (I (b + 4) name) (I b 1 + I (b + 1) 2) (mUp (seatP I b n mc nc one other) b 4 (I b 4 + 1) b 5)) (b + 3) name x := by
        unfold fsI
        rw [if_pos (by rw [en.1]; exact hs)]
        unfold seatI
        rw [seatV_up4, e1, if_neg (by omega), seatP_up4, mUp_at, mUp_at, fset_ne _ _ (by omega), fset_ne _ _ (by omega), seatP_b _ _ _ _ _ _ _ (by omega)]
      rw [show I (b + 4) name = cfS s n mc nc one' other' (20 + name) by rw [sx.2]; exact en.2] at eJ
      have hX2 : RX x (mUp (seatP I b n mc nc one other) b 4 (I b 4 + 1)) b (fset (cfS s n mc nc one' other') 6 (cfS s n mc nc one' other' 6 + 1)) := by
        have eH2 := hx.1.2.2.2.2.2.2.2.1
        refine heads_RX hx (fun y q => mUp_ne _ _ _ q) (fun i q => fset_ne _ _ (by omega)) ?_ ?_ ?_ ?_ ?_ ?_ ?_
        · rw [mUp_at, fset_ne _ _ (by omega)]
        · rw [mUp_at, fset_ne _ _ (by omega)]
        · rw [mUp_at, fset_ne _ _ (by omega), fset_ne _ _ (by omega)]; exact eH2.2.2.1
        · rw [mUp_at, fset_ne _ _ (by omega)]
        · rw [mUp_at, fset_ne _ _ (by omega), fset_ne _ _ (by omega)]
        · rw [mUp_at, fset_ne _ _ (by omega), fset_ne _ _ (by omega)]; exact hx.2.2.2.2.2.1
        · rw [mUp_at, fset_at, fset_at, lo 6 (by omega) (by omega), h.2.2.2.2]
      refine ⟨placed_R hX2 n0 n7 (by rw [fset_ne _ _ (by omega), sx.1]; exact hs) eJ eT ?_ ?_ ?_, ?_, ?_, ?_⟩
      · rw [sx.2]; exact nm.2.1
      · rw [sx.2]; exact nm.2.2
      · rw [lo 10 (by omega) (by omega), fset_ne _ _ (by omega), lo 1 (by omega) (by omega), eH.2.1, eH.2.2.2.2.2.2.1]
        by_cases z : s 10 = 0
        · left; rw [if_pos z, if_pos z, z]; have := h.1.1.2.1; omega
        · right; rw [if_neg z, if_neg z]; omega
      · rw [eT, (plT_x x0.1 n7).1]; exact x0
      · intro k k0 k1 k2 o0 ko
        have kx : s (12 + k) ≠ x := by
          intro z
          apply hr
          rcases ko with ko | ko
          · exact ⟨o0, Or.inl (ko ▸ z)⟩
          · exact ⟨o0, Or.inr (ko ▸ z)⟩
        have kn : k ≠ name := by intro z; rw [z] at k2; omega
        rw [eT, plT_ne (by omega) (by omega), fset_ne _ _ (by omega)]
        exact (hk k k0 k1 kx).1
      · intro k k0 k1 kn k2
        rw [eT, plT_ne (by omega) (by omega), fset_ne _ _ (by omega), (hk k k0 k1 (by omega)).1]
        exact k2
  · have f1 : fsB I b n mc nc name one other = true := by
      unfold fsB
      exact decide_eq_true (Or.inl (by rw [en.1]; exact hs))
    have f2 : siB s n mc nc name one' other' = true := by
      unfold siB
      exact decide_eq_true (Or.inl (by omega))
    have g1 : fsI I b n mc nc name one other = I := by
      unfold fsI
      rw [if_neg (by rw [en.1]; exact hs)]
    have g2 : siS s n mc nc name one' other' = s := by
      unfold siS
      rw [if_pos (by omega)]
    rw [f1, f2, g1, g2]
    exact ⟨rfl, fun _ => ⟨h, by omega, fun _ _ _ _ _ _ => rfl, fun _ _ _ _ q => q⟩⟩
/-- a name joins a version -/
theorem join_R {I J : mIt} {b : Nat} {s t : Int → Int} {name frm c : Int} (h : RR I b s) (n0 : 0 ≤ name) (n7 : name ≤ 7) (f0 : 0 ≤ frm) (f7 : frm ≤ 7) (hne : name ≠ frm) (hst : s (12 + name) = -1) (hc : s (12 + frm) = c) (c0 : 0 ≤ c)
    (hJ : J = vUse (mUp I (b + 3) name c) (b + 8) c (I b 5)) (ht : t = fset (fset s (12 + name) c) (28 + 5 * c + 4) (s 7)) : RR J b t := by
  obtain ⟨⟨hH, hN, hM, hO, hQ, hW, hV, eH, eN, eM, eO, eC, eD, hR⟩, hX, hz, hd, hsat⟩ := h
  have h7 := hH.1
  have c7 : c < s 0 := by have := (hN frm f0 (by omega)).1; omega
  rw [vUse, if_pos ⟨c0, by omega⟩] at hJ
  have J3 : J (b + 3) = fset (I (b + 3)) name c := by rw [hJ, mUp_ne _ _ _ (by omega), mUp_at]
  have J8 : J (b + 8) = fset (I (b + 8)) c (I b 5) := by rw [hJ, mUp_at, mUp_ne _ _ _ (by omega)]
  have Jz : ∀ y : Nat, y ≠ b + 3 → y ≠ b + 8 → J y = I y := fun y q1 q2 => by rw [hJ, mUp_ne _ _ _ q2, mUp_ne _ _ _ q1]
  have Jb := Jz b (by omega) (by omega)
  have g : ∀ i : Int, i ≠ 12 + name → i ≠ 28 + 5 * c + 4 → t i = s i := fun i q1 q2 => by rw [ht, fset_ne _ _ q2, fset_ne _ _ q1]
  have gl : ∀ i : Int, i < 12 → t i = s i := fun i q => g i (by omega) (by omega)
  have gh : ∀ i : Int, 63 ≤ i → t i = s i := fun i q => g i (by omega) (by omega)
  have tn : t (12 + name) = c := by rw [ht, fset_ne _ _ (by omega), fset_at]
  have tu : t (28 + 5 * c + 4) = s 7 := by rw [ht, fset_at]
  have pc := fun c => pin_congr (s := s) (t := t) (gl 2 (by omega)) (gl 3 (by omega)) gh c
  have nd : ∀ y : Int, 0 ≤ y → (need t y ↔ need s y) := by
    intro y y0
    unfold need
    rw [(pc y).1]
    have : hadP t y ↔ hadP s y := by
      constructor
      · rintro ⟨k, a1, a2, f⟩
        by_cases q : k = name
        · rw [q, tn] at f; exact ⟨frm, f0, by omega, by omega⟩
        · exact ⟨k, a1, a2, by rw [← g _ (by omega) (by omega)]; exact f⟩
      · rintro ⟨k, a1, a2, f⟩
        have q : k ≠ name := by intro z; rw [z] at f; omega
        exact ⟨k, a1, a2, by rw [g _ (by omega) (by omega)]; exact f⟩
    rw [this]
  obtain ⟨kH, kM, kO, kQ, kE, kEM, kEO⟩ := keepMO (J := J) (t := t) hH hM hO hQ eH eM eO gh ⟨gl _ (by omega), gl _ (by omega), gl _ (by omega), gl _ (by omega), gl _ (by omega), gl _ (by omega), gl _ (by omega), gl _ (by omega)⟩ (fun y _ q2 _ _ _ q6 => Jz y q2 q6) ⟨by rw [Jb], by rw [Jb], by rw [Jb, gl 5 (by omega)]; exact eH.2.2.1, by rw [Jb]⟩
  have g0 := gl 0 (by omega)
  refine ⟨⟨kH, ?_, kM, kO, kQ, ?_, ?_, kE, ?_, kEM, kEO, ?_, ?_, ?_⟩, ?_, ?_, ?_, ?_⟩
  · intro k a1 a2
    have := hN k a1 a2
    rw [g0, g (20 + k) (by omega) (by omega)]
    by_cases q : k = name
    · rw [q, tn]; rw [q] at this; omega
    · rw [g _ (by omega) (by omega)]; exact this
  · intro y a1 a2
    rw [g0] at a2
    rw [g (28 + 5 * y + 0) (by omega) (by omega), nd y a1]
    exact hW y a1 a2
  · intro y a1 a2
    rw [g (28 + 5 * y + 1) (by omega) (by omega)]; exact hV y a1 a2
  · intro k a1 a2
    have := eN k a1 a2
    rw [J3, Jz (b + 4) (by omega) (by omega), g (20 + k) (by omega) (by omega)]
    by_cases q : k = name
    · rw [q, fset_at, tn]; rw [q] at this; exact ⟨rfl, this.2⟩
    · rw [fset_ne _ _ q, g _ (by omega) (by omega)]; exact this
  · intro y a1 a2 a3
    rw [g0] at a2
    have r := eC y a1 a2 ((nd y a1).mp a3)
    unfold chR at *
    rw [Jb, J8, Jz (b + 6) (by omega) (by omega), Jz (b + 7) (by omega) (by omega), gl 7 (by omega), gl 1 (by omega), g (28 + 5 * y + 3) (by omega) (by omega), g (28 + 5 * y + 2) (by omega) (by omega), g (28 + 5 * y + 1) (by omega) (by omega), (pc y).2]
    refine ⟨?_, r.2⟩
    by_cases q : y = c
    · rw [q, fset_at, tu]; omega
    · rw [fset_ne _ _ q, g _ (by omega) (by omega)]; exact r.1
  · intro k a1 a2
    rw [gl 3 (by omega)] at a2
    have q := eD k a1 a2
    have o := hO k a1 a2
    unfold orR at *
    rw [Jz (b + 6) (by omega) (by omega), Jz (b + 7) (by omega) (by omega), gh (111 + 7 * k + 4) (by omega), gh (111 + 7 * k + 1) (by omega), gh (111 + 7 * k + 2) (by omega), gh (111 + 7 * k + 3) (by omega), gh (111 + 7 * k + 0) (by omega), g (28 + 5 * s (111 + 7 * k + 2) + 2) (by omega) (by omega), g (28 + 5 * s (111 + 7 * k + 3) + 2) (by omega) (by omega), gl 1 (by omega)]
    exact q
  · intro y a1 a2
    rw [Jz (b + 6) (by omega) (by omega), Jz (b + 7) (by omega) (by omega)]
    exact hR y a1 a2
  · intro y a1 a2 a3
    rw [g0] at a2
    rw [g (28 + 5 * y + 0) (by omega) (by omega)]
    exact hX y a1 a2 (fun z => a3 ((nd y a1).mpr z))
  · rw [Jz (b + 9) (by omega) (by omega), gl 3 (by omega)]; exact hz
  · rw [Jb, gl 4 (by omega)]; exact hd
  · rw [Jb, gl 6 (by omega)]; exact hsat
theorem copy_R {I : mIt} {b n mc nc : Nat} {s : Int → Int} (h : RR I b s) (hn : s 3 = n) (hm : s 2 = mc) (hc : s 0 = nc) (name frm : Int) (hok : (0 ≤ name ∧ name ≤ 7) ∧ (0 ≤ frm ∧ frm ≤ 7) ∧ name ≠ frm) :
    cnB I b n mc nc frm = cmB s n mc nc frm ∧ (cmB s n mc nc frm = true → 0 ≤ cmC s n mc nc frm ∧ cnV I b n mc nc name frm = cmC s n mc nc frm ∧ RR (cnI I b n mc nc name frm) b (cmX s n mc nc name frm)) := by
  have h1 := turn_R h
  have c3 : ∀ i : Int, i ≠ 7 → fset s 7 (s 7 + 1) i = s i := fun i q => fset_ne _ _ q
  have st := sit_R (I := mUp I b 5 (I b 5 + 1)) (b := b) (n := n) (mc := mc) (nc := nc) (name := frm) (one := frm) (other := frm) (one' := -1) (other' := -1) h1 (by rw [c3 3 (by omega)]; exact hn) (by rw [c3 2 (by omega)]; exact hm) (by rw [c3 0 (by omega)]; exact hc) hok.2.1.1 hok.2.1.2 (fun z => by
    have e := (h1.1.2.2.2.2.2.2.2.2.1 frm hok.2.1.1 (by omega)).1
    rw [z] at e
    exact rdQ_none (csetOf_st e) (csetOf_st e) (by omega)) (by omega)
  change cnB I b n mc nc frm = cmB s n mc nc frm ∧ (cmB s n mc nc frm = true → RR (cpI1 I b n mc nc frm) b (cmS s n mc nc frm) ∧ (0 ≤ cmC s n mc nc frm ∧ cmC s n mc nc frm < fset s 7 (s 7 + 1) 0) ∧ _) at st
  refine ⟨st.1, fun hB => ?_⟩
  obtain ⟨r, c0, _⟩ := st.2 hB
  have eN := (r.1.2.2.2.2.2.2.2.2.1 frm hok.2.1.1 (by omega)).1
  have eF : cpI1 I b n mc nc frm (b + 3) frm = cmC s n mc nc frm := eN
  have lo : ∀ i : Int, i < 12 → i ≠ 5 → i ≠ 6 → i ≠ 7 → cmS s n mc nc frm i = s i := fun i a1 a2 a3 a4 => by
    unfold cmS; rw [siS_lo _ _ _ _ _ _ _ a1 a2 a3 hok.2.1.1, c3 i a4]
  have l7 : cmS s n mc nc frm 7 = s 7 + 1 := by
    unfold cmS; rw [siS_lo _ _ _ _ _ _ _ (by omega) (by omega) (by omega) hok.2.1.1, fset_at]
  have t5 : cpI1 I b n mc nc frm b 5 = I b 5 + 1 := by
    unfold cpI1; rw [fsI_b _ _ _ _ _ _ _ _ (by omega) (by omega), mUp_at, fset_at]
  refine ⟨c0.1, ?_, ?_⟩
  · unfold cnV
    rw [if_neg (fun z => z hok), if_pos (st.1.trans hB), eF]
  · have g := giveUp_R (n := n) (m := mc) (nc := nc) (name := name) r (by rw [lo 3 (by omega) (by omega) (by omega) (by omega)]; exact hn) (by rw [lo 2 (by omega) (by omega) (by omega) (by omega)]; exact hm) (by rw [lo 0 (by omega) (by omega) (by omega) (by omega)]; exact hc) hok.1.1 hok.1.2
    have gs : ∀ i : Int, i < 28 → i ≠ 12 + name → guM (cmS s n mc nc frm) n mc nc name i = cmS s n mc nc frm i := fun i a1 a2 => by
      unfold guM; rw [frM_nei nc (fun c _ _ => by omega), fset_ne _ _ a2]
    refine join_R (name := name) (frm := frm) (c := cmC s n mc nc frm) g hok.1.1 hok.1.2 hok.2.1.1 hok.2.1.2 hok.2.2 ?_ ?_ c0.1 ?_ ?_
    · unfold guM; rw [frM_nei nc (fun c _ _ => by omega), fset_at]
    · rw [gs _ (by omega) (by omega)]; rfl
    · unfold cnI
      rw [if_neg (fun z => z hok), if_pos (st.1.trans hB), eF, mUp_mUp, mUp_ne _ _ _ (show b ≠ b + 3 by omega), t5]
    · unfold cmX
      rw [gs 7 (by omega) (by omega), l7]
