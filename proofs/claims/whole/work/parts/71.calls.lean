/-! ===== the mathematics: the calls that change, on both sides, in their bounds ===== -/
theorem GS_mk {N M : Int} {I K : mIt} {b : Nat} {s t : Int → Int} (h : GS N I b s) (hr : RR K b t) (h1 : K b 1 ≤ 50000) (h2 : 0 ≤ K b 2 ∧ K b 2 ≤ M) (h3 : 0 ≤ K b 3 ∧ K b 3 ≤ M) (h4 : 0 ≤ K b 4 ∧ K b 4 ≤ M) (h5 : 0 ≤ K b 5 ∧ K b 5 ≤ M) (h7 : 0 ≤ t 7 ∧ t 7 ≤ M) : GS M K b t :=
  ⟨hr, by rw [← hr.1.2.2.2.2.2.2.2.1.2.1]; exact h1, h2, h3, h4, h5, h7⟩
theorem GS_1 {N : Int} {I : mIt} {b : Nat} {s : Int → Int} (h : GS N I b s) : I b 1 ≤ 50000 := by rw [h.1.1.2.2.2.2.2.2.2.1.2.1]; exact h.2.1
theorem vUse_no (I : mIt) {us x : Nat} (ch u : Int) (h : x ≠ us) : vUse I us ch u x = I x := by
  unfold vUse; split
  · rw [mUp_ne _ _ _ h]
  · rfl
theorem oAdd_no (I : mIt) {b x : Nat} (k nc r1 r2 mk : Int) (h : x < b + 9 ∨ b + 14 < x) : oAdd I (b + 9) (b + 10) (b + 11) (b + 12) (b + 13) (b + 14) k nc r1 r2 mk x = I x := by
  unfold oAdd; split
  · rw [mUp_ne _ _ _ (by omega), mUp_ne _ _ _ (by omega), mUp_ne _ _ _ (by omega), mUp_ne _ _ _ (by omega), mUp_ne _ _ _ (by omega), mUp_ne _ _ _ (by omega)]
  · rfl
theorem put_G {N : Int} {I : mIt} {b n mc nc : Nat} {s : Int → Int} (h : GS N I b s) (hn : s 3 = n) (hm : s 2 = mc) (hc : s 0 = nc) (name v : Int) :
    pvV I b n mc nc name v = pmV s n mc nc name v ∧ (0 ≤ pmV s n mc nc name v → ((0 ≤ name ∧ name ≤ 7) ∧ (0 ≤ v ∧ v ≤ 9999)) ∧ ¬ pmC s n mc nc name < 0 ∧ GS (N + 10) (pvI I b n mc nc name v) b (ikS (pmX s n mc nc name) (pmC s n mc nc name) v)) ∧ (∀ x : Nat, x < b ∨ b + 25 ≤ x → pvI I b n mc nc name v x = I x) := by
  have hC := h.2.2
  have g1 := GS_1 h
  unfold Ct at hC
  refine ⟨?_, ?_, ?_⟩
  · by_cases ok : (0 ≤ name ∧ name ≤ 7) ∧ (0 ≤ v ∧ v ≤ 9999)
    · have := put_R h.1 hn hm hc name v ok
      unfold pmV
      rw [if_neg (fun z => z ok)]
      rcases this with ⟨q1, q2⟩ | ⟨q1, q2, q3⟩
      · rw [q1, q2, if_pos (by omega)]
      · rw [q2, if_neg (by omega)]
    · unfold pmV pvV
      rw [if_neg ok, if_pos ok]
  · intro hp
    by_cases ok : (0 ≤ name ∧ name ≤ 7) ∧ (0 ≤ v ∧ v ≤ 9999)
    · have := put_R h.1 hn hm hc name v ok
      unfold pmV at hp
      rw [if_neg (fun z => z ok)] at hp
      rcases this with ⟨q1, q2⟩ | ⟨q1, q2, q3⟩
      · rw [q2, if_pos (by omega)] at hp; omega
      · refine ⟨ok, by omega, ?_⟩
        have kb : ∀ k : Int, k ≠ 3 → pvI I b n mc nc name v b k = mUp I b 5 (I b 5 + 1) b k := fun k hk => by
          unfold pvI; rw [if_pos ok, seatI_b _ _ _ _ _ _ _ _ _ _ hk, mUp_ne _ _ _ (by omega)]
        have k3 : I b 3 ≤ pvI I b n mc nc name v b 3 ∧ pvI I b n mc nc name v b 3 ≤ I b 3 + 1 := by
          unfold pvI; rw [if_pos ok]
          have := seatI_3 (mUp (mUp I b 5 (I b 5 + 1)) (b + 3) name (-1)) b n mc nc name v (I b 1) (-1) (-1)
          rw [mUp_ne _ _ _ (by omega), mUp_at, fset_ne _ _ (by omega)] at this
          exact this
        refine GS_mk h q3 ?_ ?_ ?_ ?_ ?_ ?_
        · rw [kb 1 (by omega), mUp_at, fset_ne _ _ (by omega)]; exact g1
        · rw [kb 2 (by omega), mUp_at, fset_ne _ _ (by omega)]; omega
        · omega
        · rw [kb 4 (by omega), mUp_at, fset_ne _ _ (by omega)]; omega
        · rw [kb 5 (by omega), mUp_at, fset_at]; omega
        · have e : ikS (pmX s n mc nc name) (pmC s n mc nc name) v 7 = s 7 + 1 := by
            unfold ikS
            rw [fset_ne _ _ (by omega), fset_ne _ _ (by omega), fset_ne _ _ (by omega)]
            unfold pmX pmG
            rw [getS_ne _ _ _ _ _ _ _ (by omega) (by omega) ok.1.1, guM_lo _ _ _ _ _ (by omega) ok.1.1, fset_at]
          rw [e]; omega
    · unfold pmV at hp; rw [if_pos ok] at hp; omega
  · intro x hx
    unfold pvI
    split
    · rw [seatI_ne _ _ _ _ _ _ _ _ _ (by omega) (by omega) (by omega) (by omega) (by omega) (by omega), mUp_ne _ _ _ (by omega), mUp_ne _ _ _ (by omega)]
    · rfl
theorem copy_G {N : Int} {I : mIt} {b n mc nc : Nat} {s : Int → Int} (h : GS N I b s) (hn : s 3 = n) (hm : s 2 = mc) (hc : s 0 = nc) (name frm : Int) :
    cnV I b n mc nc name frm = cmV s n mc nc name frm ∧ (0 ≤ cmV s n mc nc name frm → ((0 ≤ name ∧ name ≤ 7) ∧ (0 ≤ frm ∧ frm ≤ 7) ∧ name ≠ frm) ∧ cmB s n mc nc frm = true ∧ GS (N + 10) (cnI I b n mc nc name frm) b (cmX s n mc nc name frm)) ∧ (∀ x : Nat, x < b ∨ b + 25 ≤ x → cnI I b n mc nc name frm x = I x) := by
  have hC := h.2.2
  have g1 := GS_1 h
  unfold Ct at hC
  refine ⟨?_, ?_, ?_⟩
  · by_cases ok : (0 ≤ name ∧ name ≤ 7) ∧ (0 ≤ frm ∧ frm ≤ 7) ∧ name ≠ frm
    · obtain ⟨q1, q2⟩ := copy_R h.1 hn hm hc name frm ok
      by_cases q : cmB s n mc nc frm = true
      · rw [(q2 q).2.1]; unfold cmV; rw [if_neg (fun z => z ok), if_pos q]
      · have a1 : cnV I b n mc nc name frm = -2 := by unfold cnV; rw [if_neg (fun z => z ok), q1, if_neg q]
        have a2 : cmV s n mc nc name frm = -2 := by unfold cmV; rw [if_neg (fun z => z ok), if_neg q]
        rw [a1, a2]
    · unfold cnV cmV; rw [if_pos ok, if_pos ok]
  · intro hp
    by_cases ok : (0 ≤ name ∧ name ≤ 7) ∧ (0 ≤ frm ∧ frm ≤ 7) ∧ name ≠ frm
    · obtain ⟨q1, q2⟩ := copy_R h.1 hn hm hc name frm ok
      unfold cmV at hp
      rw [if_neg (fun z => z ok)] at hp
      by_cases q : cmB s n mc nc frm = true
      · refine ⟨ok, q, ?_⟩
        obtain ⟨c0, c1, c2⟩ := q2 q
        have eI : cnI I b n mc nc name frm = vUse (mUp (cpI1 I b n mc nc frm) (b + 3) name (cpI1 I b n mc nc frm (b + 3) frm)) (b + 8) (cpI1 I b n mc nc frm (b + 3) frm) (I b 5 + 1) := by
          unfold cnI; rw [if_neg (fun z => z ok), if_pos (q1.trans q)]
        have kb : cnI I b n mc nc name frm b = cpI1 I b n mc nc frm b := by rw [eI, vUse_no _ _ _ (by omega), mUp_ne _ _ _ (by omega)]
        have f34 := fsI_34 (mUp I b 5 (I b 5 + 1)) b n mc nc frm frm frm
        rw [mUp_at, fset_ne _ _ (by omega), fset_ne _ _ (by omega)] at f34
        have fb : ∀ k : Int, k ≠ 3 → k ≠ 4 → cpI1 I b n mc nc frm b k = fset (I b) 5 (I b 5 + 1) k := fun k a1 a2 => by unfold cpI1; rw [fsI_b _ _ _ _ _ _ _ _ a1 a2, mUp_at]
        change (I b 3 ≤ cpI1 I b n mc nc frm b 3 ∧ cpI1 I b n mc nc frm b 3 ≤ I b 3 + 1) ∧ (I b 4 ≤ cpI1 I b n mc nc frm b 4 ∧ cpI1 I b n mc nc frm b 4 ≤ I b 4 + 1) at f34
        refine GS_mk h c2 ?_ ?_ ?_ ?_ ?_ ?_
        · rw [kb, fb 1 (by omega) (by omega), fset_ne _ _ (by omega)]; exact g1
        · rw [kb, fb 2 (by omega) (by omega), fset_ne _ _ (by omega)]; omega
        · rw [kb]; omega
        · rw [kb]; omega
        · rw [kb, fb 5 (by omega) (by omega), fset_at]; omega
        · have e : cmX s n mc nc name frm 7 = s 7 + 1 := by
            unfold cmX
            rw [fset_ne _ _ (by omega), fset_ne _ _ (by omega), guM_lo _ _ _ _ _ (by omega) ok.1.1]
            unfold cmS
            rw [siS_lo _ _ _ _ _ _ _ (by omega) (by omega) (by omega) ok.2.1.1, fset_at]
          rw [e]; omega
      · rw [if_neg q] at hp; omega
    · unfold cmV at hp; rw [if_pos ok] at hp; omega
  · intro x hx
    have f : cpI1 I b n mc nc frm x = I x := by
      unfold cpI1; rw [fsI_ne _ _ _ _ _ _ _ (by omega) (by omega) (by omega) (by omega) (by omega) (by omega), mUp_ne _ _ _ (by omega)]
    unfold cnI
    split
    · rfl
    · split
      · rw [vUse_no _ _ _ (by omega), mUp_ne _ _ _ (by omega), f]
      · exact f
theorem order_G {N : Int} {I : mIt} {b n mc nc : Nat} {s : Int → Int} (h : GS N I b s) (hn : s 3 = n) (hm : s 2 = mc) (hc : s 0 = nc) (what name one other : Int) :
    goV I b n mc nc what name one other = omV s n mc nc what name one other ∧ (0 ≤ omV s n mc nc what name one other → ((0 ≤ what ∧ what ≤ 2) ∧ (0 ≤ name ∧ name ≤ 7) ∧ (0 ≤ one ∧ one ≤ 7) ∧ (0 ≤ other ∧ other ≤ 7)) ∧ ¬ (gvV s n mc nc name one other < 0 ∨ n = 6) ∧ GS (N + 10) (goM I b n mc nc what name one other) b (omX s n mc nc what name one other)) ∧ (∀ x : Nat, x < b ∨ b + 25 ≤ x → goM I b n mc nc what name one other x = I x) := by
  have hC := h.2.2
  have g1 := GS_1 h
  unfold Ct at hC
  refine ⟨?_, ?_, ?_⟩
  · by_cases ok : (0 ≤ what ∧ what ≤ 2) ∧ (0 ≤ name ∧ name ≤ 7) ∧ (0 ≤ one ∧ one ≤ 7) ∧ (0 ≤ other ∧ other ≤ 7)
    · have := (order_R h.1 hn hm hc what name one other ok).1
      unfold omV
      rw [if_neg (fun z => z ok)]
      rcases this with ⟨q1, q2⟩ | ⟨q1, q2, ⟨q3, q4⟩ | ⟨q3, q4, q5⟩⟩
      · rw [q1, q2, if_pos (by omega)]
      · rw [q4, if_neg (by omega), if_pos q3]
      · rw [q4, if_neg (by omega), if_neg (by omega)]
    · unfold goV omV; rw [if_pos ok, if_pos ok]
  · intro hp
    by_cases ok : (0 ≤ what ∧ what ≤ 2) ∧ (0 ≤ name ∧ name ≤ 7) ∧ (0 ≤ one ∧ one ≤ 7) ∧ (0 ≤ other ∧ other ≤ 7)
    · have := (order_R h.1 hn hm hc what name one other ok).1
      unfold omV at hp
      rw [if_neg (fun z => z ok)] at hp
      rcases this with ⟨q1, q2⟩ | ⟨q1, q2, ⟨q3, q4⟩ | ⟨q3, q4, q5⟩⟩
      · rw [q2, if_pos (by omega)] at hp; omega
      · rw [if_neg (by omega), if_pos q3] at hp; omega
      · refine ⟨ok, by omega, ?_⟩
        -- the room's numbers behind
        have r1 := q5.1.2.2.2.2.2.2.2.1
        have e9 : ∀ i : Int, i < 12 → i ≠ 3 → i ≠ 5 → i ≠ 6 → i ≠ 7 → omX s n mc nc what name one other i = s i := fun i a1 a2 a3 a4 a5 => by
          have g := gvS_lo s n mc nc name one other a1 a3 a4 a5 ok.2.1.1 ok.2.2.1.1 ok.2.2.2.1 (fun z1 z2 => ⟨((order_R h.1 hn hm hc what name one other ok).2 z1 z2).1.1, ((order_R h.1 hn hm hc what name one other ok).2 z1 z2).2.1⟩)
          unfold omX
          rw [fset_ne _ _ a2, fset_ne _ _ (by omega), fset_ne _ _ (by omega), fset_ne _ _ (by omega), fset_ne _ _ (by omega)]
          exact g
        have gm : goM I b n mc nc what name one other b = goD I b n mc nc what name one other b ∨ goM I b n mc nc what name one other b = goC I b n mc nc name one other b ∨ goM I b n mc nc what name one other b = goB I b n mc nc name one other b := by
          unfold goM
          rw [if_neg (fun z => z ok)]
          split
          · exact Or.inr (Or.inr rfl)
          · split
            · exact Or.inr (Or.inl rfl)
            · split
              · exact Or.inl rfl
              · split
                · exact Or.inl rfl
                · left
                  unfold goE
                  rw [oAdd_no _ _ _ _ _ _ (by omega), vUse_no _ _ _ (by omega), vUse_no _ _ _ (by omega)]
        have g34 := go_34 I b n mc nc name one other
        have d3 := seatI_3 (goC I b n mc nc name one other) b n mc nc name (goX I b n mc nc what name one other) 1000000 one other
        have d4 : goD I b n mc nc what name one other b 4 = goC I b n mc nc name one other b 4 := by unfold goD; rw [seatI_b _ _ _ _ _ _ _ _ _ _ (by omega)]
        have d5 : goD I b n mc nc what name one other b 5 = I b 5 + 1 := by rw [goD_b _ _ _ _ _ _ _ _ _ (by omega) (by omega), goA_5]
        have c5 : goC I b n mc nc name one other b 5 = I b 5 + 1 := by rw [goC_b _ _ _ _ _ _ _ _ (by omega) (by omega), goA_5]
        have b5 : goB I b n mc nc name one other b 5 = I b 5 + 1 := by rw [goB_b _ _ _ _ _ _ _ _ (by omega) (by omega), goA_5]
        have d1 : goD I b n mc nc what name one other b 1 = I b 1 := by rw [goD_b _ _ _ _ _ _ _ _ _ (by omega) (by omega), goA_b _ _ _ _ _ (by omega)]
        have c1 : goC I b n mc nc name one other b 1 = I b 1 := by rw [goC_b _ _ _ _ _ _ _ _ (by omega) (by omega), goA_b _ _ _ _ _ (by omega)]
        have b1 : goB I b n mc nc name one other b 1 = I b 1 := by rw [goB_b _ _ _ _ _ _ _ _ (by omega) (by omega), goA_b _ _ _ _ _ (by omega)]
        have d2 : goD I b n mc nc what name one other b 2 = I b 2 := by rw [goD_b _ _ _ _ _ _ _ _ _ (by omega) (by omega), goA_b _ _ _ _ _ (by omega)]
        have c2 : goC I b n mc nc name one other b 2 = I b 2 := by rw [goC_b _ _ _ _ _ _ _ _ (by omega) (by omega), goA_b _ _ _ _ _ (by omega)]
        have b2 : goB I b n mc nc name one other b 2 = I b 2 := by rw [goB_b _ _ _ _ _ _ _ _ (by omega) (by omega), goA_b _ _ _ _ _ (by omega)]
        change goC I b n mc nc name one other b 3 ≤ goD I b n mc nc what name one other b 3 ∧ goD I b n mc nc what name one other b 3 ≤ goC I b n mc nc name one other b 3 + 1 at d3
        have key : goM I b n mc nc what name one other b 1 = I b 1 ∧ goM I b n mc nc what name one other b 2 = I b 2 ∧ goM I b n mc nc what name one other b 5 = I b 5 + 1 ∧ (I b 3 ≤ goM I b n mc nc what name one other b 3 ∧ goM I b n mc nc what name one other b 3 ≤ I b 3 + 3) ∧ (I b 4 ≤ goM I b n mc nc what name one other b 4 ∧ goM I b n mc nc what name one other b 4 ≤ I b 4 + 2) := by
          rcases gm with z | z | z <;> rw [z] <;> omega
        have t7 : omX s n mc nc what name one other 7 = s 7 + 1 := by
          have q := (order_R h.1 hn hm hc what name one other ok).2
          unfold omX
          rw [fset_ne _ _ (by omega), fset_ne _ _ (by omega), fset_ne _ _ (by omega), fset_ne _ _ (by omega), fset_ne _ _ (by omega)]
          unfold gvV at q1
          by_cases y1 : gv1 s n mc nc name one other = true ∧ gv2 s n mc nc name one other = true
          · rw [if_pos y1] at q1
            have kk : ¬ gvK s n mc nc name one other < 0 := by
              intro z; rw [if_pos z] at q1; omega
            have qq := q y1.1 y1.2
            unfold gvS
            rw [if_pos y1.1, if_pos y1.2, if_neg kk]
            unfold gvX
            rw [fset_ne _ _ (by omega), fset_ne _ _ (by omega), fset_ne _ _ (by omega), fset_ne _ _ (by omega), fset_ne _ _ (by omega), fset_ne _ _ (by omega), fset_ne _ _ (by omega), fset_ne _ _ (by omega), gvE_lo _ _ _ _ _ _ _ (by omega) (by omega), gvC_lo _ _ _ _ _ _ _ (by omega) (by omega) (by omega) ok.2.2.1.1 ok.2.2.2.1, gvA_7 _ _ _ _ _ _ _ ok.2.1.1]
          · rw [if_neg y1] at q1; omega
        obtain ⟨k1, k2, k5, k3, k4⟩ := key
        refine GS_mk h q5 (by omega) (by omega) (by omega) (by omega) (by omega) (by rw [t7]; omega)
    · unfold omV at hp; rw [if_pos ok] at hp; omega
  · intro x hx
    unfold goM
    split
    · rfl
    · split
      · exact goB_ne _ _ _ _ _ _ _ (by omega) (by omega) (by omega) (by omega) (by omega) (by omega)
      · split
        · exact goC_ne _ _ _ _ _ _ _ (by omega) (by omega) (by omega) (by omega) (by omega) (by omega)
        · split
          · exact goD_ne _ _ _ _ _ _ _ _ (by omega) (by omega) (by omega) (by omega) (by omega) (by omega)
          · split
            · exact goD_ne _ _ _ _ _ _ _ _ (by omega) (by omega) (by omega) (by omega) (by omega) (by omega)
            · unfold goE
              rw [oAdd_no _ _ _ _ _ _ (by omega), vUse_no _ _ _ (by omega), vUse_no _ _ _ (by omega)]
              exact goD_ne _ _ _ _ _ _ _ _ (by omega) (by omega) (by omega) (by omega) (by omega) (by omega)
theorem tick_G {N : Int} {I : mIt} {b n mc nc : Nat} {s : Int → Int} (h : GS N I b s) (hn : s 3 = n) (hm : s 2 = mc) (hc : s 0 = nc) (d : Int) :
    ltV I b n d = mtV s n mc nc d ∧ (0 ≤ mtV s n mc nc d → (1 ≤ d ∧ d ≤ 99) ∧ ¬ 50000 < s 1 + d ∧ GS (N + 10) (ltI I b n d) b (tkM s n mc nc d.toNat).1) ∧ (∀ x : Nat, x < b ∨ b + 25 ≤ x → ltI I b n d x = I x) := by
  have hC := h.2.2
  have g1 := GS_1 h
  have e1 := h.1.1.2.2.2.2.2.2.2.1.2.1
  have hT := h.2.1
  have h6 := h.1.1.1.2.2.2.1
  unfold Ct at hC
  by_cases ok : (1 ≤ d ∧ d ≤ 99) ∧ ¬ 50000 < s 1 + d
  · obtain ⟨r, e2, e3, e5, e6, e7, e8⟩ := tks_R h.1 hn hm hc d.toNat (by omega)
    have vv : mtV s n mc nc d = (n : Int) - ((tks I b n d.toNat).2 : Nat) := by
      unfold mtV; rw [if_neg (fun z => z ok.1), if_neg ok.2, e7, e2]; omega
    refine ⟨?_, fun _ => ⟨ok.1, ok.2, ?_⟩, fun x hx => ?_⟩
    · rw [vv]; unfold ltV; rw [if_neg (fun z => z ok.1), e1, if_neg ok.2]
    · unfold ltI; rw [e1, if_pos ok]
      have t2 := tks_2 I b n d.toNat
      refine GS_mk h r ?_ ?_ ?_ ?_ ?_ ?_
      · rw [tks_1]; omega
      · rw [t2, e2]; omega
      · rw [tks_b _ _ _ _ (by omega) (by omega)]; omega
      · rw [tks_b _ _ _ _ (by omega) (by omega)]; omega
      · rw [tks_b _ _ _ _ (by omega) (by omega)]; omega
      · rw [e8 7 (by omega) (by omega) (by omega) (by omega)]; omega
    · unfold ltI; rw [e1, if_pos ok, tks_ne _ _ _ (by omega) (by omega) (by omega)]
  · refine ⟨?_, fun hp => ?_, fun x _ => ?_⟩
    · by_cases q : 1 ≤ d ∧ d ≤ 99
      · have q2 : 50000 < s 1 + d := Classical.byContradiction (fun z => ok ⟨q, z⟩)
        have a1 : ltV I b n d = -3 := by unfold ltV; rw [e1, if_neg (fun z => z q), if_pos q2]
        have a2 : mtV s n mc nc d = -3 := by unfold mtV; rw [if_neg (fun z => z q), if_pos q2]
        rw [a1, a2]
      · have a1 : ltV I b n d = -1 := by unfold ltV; rw [if_pos q]
        have a2 : mtV s n mc nc d = -1 := by unfold mtV; rw [if_pos q]
        rw [a1, a2]
    · exfalso
      unfold mtV at hp
      by_cases q : 1 ≤ d ∧ d ≤ 99
      · rw [if_neg (fun z => z q), if_pos (Classical.byContradiction (fun z => ok ⟨q, z⟩))] at hp; omega
      · rw [if_pos q] at hp; omega
    · unfold ltI; rw [e1, if_neg ok]
theorem set_G {N : Int} {I : mIt} {b : Nat} {s : Int → Int} (h : GS N I b s) (w v : Int) : csV I b w v = stV s w v ∧ (0 ≤ stV s w v → GS (N + 10) (csI I b w v) b (fset s (8 + w) v)) ∧ (0 ≤ stV s w v ↔ (((w = 0 ∨ w = 1) ∧ 1 ≤ v ∧ v ≤ 9) ∨ (w = 2 ∧ 0 ≤ v ∧ v ≤ 9) ∨ (w = 3 ∧ 1 ≤ v ∧ v ≤ 3))) ∧ (∀ x : Nat, x < b ∨ b + 25 ≤ x → csI I b w v x = I x) := by
  have hC := h.2.2
  have g1 := GS_1 h
  unfold Ct at hC
  obtain ⟨q1, q2, q3⟩ := csV_eq (w := w) (v := v) h.1
  have kx : ∀ x : Nat, x ≠ b + 1 → csI I b w v x = I x := fun x hx => by
    unfold csI
    by_cases hq : (0 ≤ w ∧ w ≤ 3) ∧ ((if w = 2 then 0 else 1) ≤ v ∧ v ≤ (if w = 3 then 3 else 9))
    · rw [if_pos hq, mUp_ne _ _ _ hx]
    · rw [if_neg hq]
  have kb := kx b (by omega)
  refine ⟨q1, fun hp => ?_, q3, fun x hx => ?_⟩
  · have := q3.mp hp
    refine GS_mk h (q2 hp) (by rw [kb]; exact g1) (by rw [kb]; omega) (by rw [kb]; omega) (by rw [kb]; omega) (by rw [kb]; omega) (by rw [fset_ne _ _ (by omega)]; omega)
  · exact kx x (by omega)
theorem mark_G {N : Int} {I : mIt} {b mc : Nat} {s : Int → Int} (h : GS N I b s) (hm : s 2 = mc) (hm3 : mc ≤ 3) : (if 3 ≤ mc then -3 else (mc : Int)) = mmV mc ∧ (0 ≤ mmV mc → mc ≠ 3 ∧ GS (N + 10) (amI I b mc) b (fset (mkA s mc 16) 2 ((mc : Int) + 1))) ∧ (∀ x : Nat, x < b ∨ b + 25 ≤ x → amI I b mc x = I x) := by
  have hC := h.2.2
  have g1 := GS_1 h
  unfold Ct at hC
  unfold mmV
  refine ⟨?_, fun hp => ?_, fun x hx => ?_⟩
  · by_cases q : mc = 3
    · rw [if_pos q, if_pos (by omega)]
    · rw [if_neg q, if_neg (by omega)]
  · have q : mc ≠ 3 := by intro z; rw [if_pos z] at hp; omega
    have kb : ∀ k : Int, k ≠ 6 → amI I b mc b k = I b k := fun k hk => by
      unfold amI; rw [if_neg (by omega), mUp_at, fset_ne _ _ hk, cpy_ne _ _ _ (by unfold mH; omega), cpy_ne _ _ _ (by unfold mC; omega)]
    refine ⟨q, GS_mk h (mark_R h.1 hm (by omega)) (by rw [kb 1 (by omega)]; exact g1) (by rw [kb 2 (by omega)]; omega) (by rw [kb 3 (by omega)]; omega) (by rw [kb 4 (by omega)]; omega) (by rw [kb 5 (by omega)]; omega) ?_⟩
    rw [fset_ne _ _ (by omega), mkA, if_neg (by omega)]; omega
  · unfold amI; split
    · rfl
    · rw [mUp_ne _ _ _ (by omega), cpy_ne _ _ _ (by unfold mH; omega), cpy_ne _ _ _ (by unfold mC; omega)]
theorem keep_G {N : Int} {I : mIt} {b n mc nc : Nat} {s : Int → Int} (h : GS N I b s) (hn : s 3 = n) (hm : s 2 = mc) (hc : s 0 = nc) : (if mc = 0 then -2 else ((mc - 1 : Nat) : Int)) = kpV mc ∧ (0 ≤ kpV mc → mc ≠ 0 ∧ GS (N + 10) (dfI I b n mc) b (kpS s n mc nc)) ∧ (∀ x : Nat, x < b ∨ b + 25 ≤ x → dfI I b n mc x = I x) := by
  have hC := h.2.2
  have g1 := GS_1 h
  unfold Ct at hC
  unfold kpV
  refine ⟨?_, fun hp => ?_, fun x hx => ?_⟩
  · by_cases q : mc = 0
    · rw [if_pos q, if_pos q]
    · rw [if_neg q, if_neg q]; omega
  · have q : mc ≠ 0 := by intro z; rw [if_pos z] at hp; omega
    have kb : ∀ k : Int, k ≠ 6 → dfI I b n mc b k = I b k := fun k hk => by
      unfold dfI fgm dfm
      rw [if_neg q, cpy_ne _ _ _ (by omega), mUp_at, fset_ne _ _ hk, cpy_ne _ _ _ (by omega), cpy_ne _ _ _ (by omega), cpy_ne _ _ _ (by omega), cpy_ne _ _ _ (by omega)]
    refine ⟨q, GS_mk h (keep_R h.1 hn hm hc (by omega)) (by rw [kb 1 (by omega)]; exact g1) (by rw [kb 2 (by omega)]; omega) (by rw [kb 3 (by omega)]; omega) (by rw [kb 4 (by omega)]; omega) (by rw [kb 5 (by omega)]; omega) ?_⟩
    have e : kpS s n mc nc 7 = s 7 := by
      unfold kpS
      rw [frM_nei nc (fun c _ _ => by omega), (kpZ_at n).1 7 (fun k _ _ => by omega), kpA, if_neg (by omega), if_neg (by omega)]
    rw [e]; omega
  · unfold dfI; split
    · rfl
    · unfold fgm dfm
      rw [cpy_ne _ _ _ (by omega), mUp_ne _ _ _ (by omega), cpy_ne _ _ _ (by omega), cpy_ne _ _ _ (by omega), cpy_ne _ _ _ (by omega), cpy_ne _ _ _ (by omega)]
theorem bkD_7 {y : Int} : ∀ f : Nat, ∀ (s : Int → Int) (n k : Nat), (bkD y f s n k).1 7 = s 7 := by
  intro f
  induction f with
  | zero => intro s n k; rfl
  | succ f ih =>
    intro s n k
    rw [bkD]
    split
    · rw [ih]; unfold drS drJ; rw [if_neg (by omega), if_neg (by omega)]
    · rw [ih]
theorem back_G {N : Int} {I : mIt} {b n mc nc : Nat} {s : Int → Int} (h : GS N I b s) (hn : s 3 = n) (hm : s 2 = mc) (hc : s 0 = nc) (y : Int) : gbV I b n mc y = bkV s n mc y ∧ (0 ≤ bkV s n mc y → (0 ≤ y ∧ y < mc) ∧ GS (N + 10) (gbI I b n mc y) b (bkS s n mc nc y)) ∧ (∀ x : Nat, x < b ∨ b + 25 ≤ x → gbI I b n mc y x = I x) := by
  have hC := h.2.2
  have g1 := GS_1 h
  unfold Ct at hC
  refine ⟨?_, fun hp => ?_, fun x hx => ?_⟩
  · by_cases q : 0 ≤ y ∧ y < (mc : Int)
    · exact (back_R h.1 hn hm hc q.1 q.2).1
    · unfold gbV bkV; rw [if_neg q, if_neg q]
  · have q : 0 ≤ y ∧ y < (mc : Int) := by
      refine Classical.byContradiction (fun z => ?_)
      unfold bkV at hp; rw [if_neg z] at hp; omega
    have kb : ∀ k : Int, k ≠ 6 → gbI I b n mc y b k = I b k := fun k hk => by
      unfold gbI
      rw [if_pos q, mUp_ne _ _ _ (by omega), mUp_at, fset_ne _ _ hk, cpy_ne _ _ _ (by omega), cpy_ne _ _ _ (by omega)]
    refine ⟨q, GS_mk h (back_R h.1 hn hm hc q.1 q.2).2 (by rw [kb 1 (by omega)]; exact g1) (by rw [kb 2 (by omega)]; omega) (by rw [kb 3 (by omega)]; omega) (by rw [kb 4 (by omega)]; omega) (by rw [kb 5 (by omega)]; omega) ?_⟩
    have e : bkS s n mc nc y 7 = s 7 := by
      unfold bkS bkT
      rw [frM_nei nc (fun c _ _ => by omega), fset_ne _ _ (by omega), bkD_7, bkC, if_neg (by omega)]
    rw [e]; omega
  · unfold gbI; split
    · rw [mUp_ne _ _ _ (by omega), mUp_ne _ _ _ (by omega), cpy_ne _ _ _ (by omega), cpy_ne _ _ _ (by omega)]
    · rfl
theorem begin_G {N : Int} {I : mIt} {b : Nat} {s : Int → Int} (h : GS N I b s) (c : Int) : (3 ≤ c ∧ c ≤ 7 → GS (N + 10) (emI I b c) b (clS s c)) ∧ I b 0 = s 0 ∧ (∀ x : Nat, x < b ∨ b + 25 ≤ x → emI I b c x = I x) := by
  have hC := h.2.2
  unfold Ct at hC
  refine ⟨fun q => ?_, h.1.1.2.2.2.2.2.2.2.1.1, fun x hx => ?_⟩
  · have r := begin_R h.1 q
    have Jb : emI I b c b = fset (fset (fset (fset (fset (fset (I b) 0 c) 1 0) 2 0) 3 0) 4 0) 6 0 := by
      unfold emI
      rw [cpy_ne _ _ _ (by omega), cpy_ne _ _ _ (by omega), mUp_ne _ _ _ (by omega), mUp_at, mUp_at, mUp_at, mUp_at, mUp_at, mUp_at]
    have k1 : emI I b c b 1 = 0 ∧ emI I b c b 2 = 0 ∧ emI I b c b 3 = 0 ∧ emI I b c b 4 = 0 ∧ emI I b c b 5 = I b 5 := by rw [Jb]; exact ⟨rfl, rfl, rfl, rfl, rfl⟩
    have k7 := (clS_at (s := s) (c := c)).2.1 7 (by omega) (by omega)
    refine GS_mk h r (by omega) (by omega) (by omega) (by omega) (by omega) (by omega)
  · unfold emI
    rw [cpy_ne _ _ _ (by omega), cpy_ne _ _ _ (by omega), mUp_ne _ _ _ (by omega), mUp_ne _ _ _ (by omega), mUp_ne _ _ _ (by omega), mUp_ne _ _ _ (by omega), mUp_ne _ _ _ (by omega), mUp_ne _ _ _ (by omega), mUp_ne _ _ _ (by omega)]
