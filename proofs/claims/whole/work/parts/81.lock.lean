/-! ===== the mathematics: a text, command by command, on both sides ===== -/
def TxM (I M0 : mIt) : Prop := (0 ≤ I 52 1 ∧ I 52 1 ≤ 80) ∧ M0 155 7 = I 52 1 ∧ (∀ i : Int, 0 ≤ i → i < I 52 1 → M0 160 i = I 53 i) ∧ (∀ i : Int, 0 ≤ i → i < 80 → (0 ≤ I 53 i ∧ I 53 i ≤ 126) ∧ (0 ≤ M0 160 i ∧ M0 160 i ≤ 126)) ∧ (0 ≤ M0 155 4 ∧ M0 155 4 ≤ 4)
def LkF (I T : mIt) (t : Nat) : Prop := (∀ x : Nat, (x < t ∨ t + 25 ≤ x) → x ≠ 54 → x ≠ 52 → x ≠ 0 → T x = I x) ∧ T 52 1 = I 52 1 ∧ T 0 3 = I 0 3
def LkM (M0 M : mIt) : Prop := (∀ x : Nat, x ≠ 155 → x ≠ 156 → x ≠ 159 → x ≠ 162 → M x = M0 x) ∧ M 155 4 = M0 155 4 ∧ M 155 5 = 1 ∧ M 155 7 = M0 155 7
def Lk (N : Int) (I M0 : mIt) (t : Nat) (T M : mIt) (p c : Int) : Prop := (LkF I T t ∧ T 0 6 = 0) ∧ LkM M0 M ∧ GS (N + 10 * c) T t (M 156) ∧ (M 155 9 = p ∧ 0 ≤ p ∧ p ≤ I 52 1) ∧ M 155 10 = 0 ∧ (M 155 11 = c ∧ 0 ≤ c ∧ c ≤ p)
theorem sg_in {T : mIt} {x : Int} (h : sgV T x ≠ -1) : 0 ≤ x ∧ x < T 52 1 := by
  unfold sgV at h
  by_cases k : 0 ≤ x ∧ x < T 52 1
  · exact k
  · rw [if_neg k] at h; exact absurd rfl h
section LK
variable {N : Int} {I M0 : mIt} {t : Nat} {T M : mIt} {p c : Int}
theorem lk_g (ht : RmB t) (hx : TxM I M0) (h : Lk N I M0 t T M p c) : gM M = sgV T ∧ sgV T = sgV I := by
  obtain ⟨⟨⟨f1, f2, f3⟩, f6⟩, ⟨m1, m4, m5, m7⟩, _⟩ := h
  have e53 : T 53 = I 53 := f1 53 (RmB_far ht (by omega)) (by omega) (by omega) (by omega)
  have e160 : M 160 = M0 160 := m1 160 (by omega) (by omega) (by omega) (by omega)
  refine ⟨?_, ?_⟩
  · funext x
    unfold gM sgV
    rw [m7, hx.2.1, f2, e53, e160]
    split
    · rename_i q; exact hx.2.2.1 x q.1 q.2
    · rfl
  · funext x
    unfold sgV
    rw [f2, e53]
theorem lk_tx (hx : TxM I M0) (h : Lk N I M0 t T M p c) : TxOK M := by
  obtain ⟨_, ⟨m1, m4, m5, m7⟩, _, ⟨h9, p0, p1⟩, _⟩ := h
  have e160 : M 160 = M0 160 := m1 160 (by omega) (by omega) (by omega) (by omega)
  refine ⟨by rw [h9, m7, hx.2.1]; exact ⟨p0, p1⟩, by rw [m7, hx.2.1]; exact hx.1.2, fun i a b => by rw [e160]; exact (hx.2.2.2.1 i a b).2⟩
theorem lk_xt (ht : RmB t) (hx : TxM I M0) (h : Lk N I M0 t T M p c) : XtOK T := by
  obtain ⟨⟨⟨f1, f2, f3⟩, f6⟩, _⟩ := h
  have e53 : T 53 = I 53 := f1 53 (RmB_far ht (by omega)) (by omega) (by omega) (by omega)
  exact ⟨by rw [f2]; exact hx.1, fun i a b => by rw [e53]; exact (hx.2.2.2.1 i a b).1⟩
/-- the model behind a command: what it says of the rest -/
theorem plS_at (M : mIt) : (∀ x : Nat, x ≠ 155 → plS M x = plC M x) ∧ plS M 155 10 = (if plR M < 0 then plR M else 0) ∧ plS M 155 11 = plC M 155 11 + 1 ∧ (∀ j : Int, j ≠ 10 → j ≠ 11 → plS M 155 j = plC M 155 j) := by
  unfold plS
  refine ⟨fun x hx => by rw [mUp_ne _ _ _ hx, mUp_ne _ _ _ hx], ?_, ?_, fun j a b => ?_⟩
  · rw [mUp_at, fset_ne _ _ (by omega), mUp_at, fset_at]
  · rw [mUp_at, fset_at]
  · rw [mUp_at, fset_ne _ _ b, mUp_at, fset_ne _ _ a]
/-- what a step of the model does to the rest of it -/
theorem plC_fr {q : Int} {u : Int → Int} (h5 : M 155 5 = 1) (hB : plB M = mst M q u) : (∀ x : Nat, x ≠ 155 → x ≠ 156 → x ≠ 159 → x ≠ 162 → plC M x = M x) ∧ (∀ j : Int, j ≠ 9 → plC M 155 j = M 155 j) ∧ plC M 155 9 = q := by
  have b5 : mst M q u 155 5 = 1 := by rw [mst_5 _ _ _ (by omega)]; exact h5
  have e : ∀ x : Nat, x ≠ 156 → x ≠ 159 → plC M x = mst M q u x := fun x h1 h2 => by
    unfold plC
    rw [hB]
    split
    · exact do_fr b5 _ x h1 h2
    · rfl
  refine ⟨fun x h1 h2 h3 h4 => by rw [e x h2 h3, mst_x _ _ _ h1 h4], fun j hj => by rw [e 155 (by omega) (by omega), mst_5 _ _ _ hj], by rw [e 155 (by omega) (by omega), mst_p]⟩
/-- one command -/
def stA (I M0 : mIt) (t : Nat) (T M : mIt) (p : Int) : Prop := t5C T p = -1 ∧ plK M = false ∧ plR M = -4 ∧ LkF I (t5K T p) t
def stB (N : Int) (I M0 : mIt) (t : Nat) (T M : mIt) (p c : Int) : Prop := t5C T p ≠ -1 ∧ plR M ≠ -4 ∧ t5V t T p = plR M ∧ RoOK (t5K T p) t ∧ DoOK (plB M) ∧ LkF I (t5L t T p) t ∧ (0 ≤ plR M → Lk N I M0 t (t5L t T p) (plS M) (t5L t T p 52 3) (c + 1) ∧ p < t5L t T p 52 3)
theorem lk_step (ht : RmB t) (hx : TxM I M0) (hN : N ≤ 900000) (h : Lk N I M0 t T M p c) (hp : p < I 52 1) : (stA I M0 t T M p ∨ stB N I M0 t T M p c) ∧ LkM M0 (plS M) ∧ TxOK (plS M) ∧ plS M 155 11 = c + 1 ∧ plS M 155 10 = (if plR M < 0 then plR M else 0) ∧ StOK M := by
  obtain ⟨g1, g2⟩ := lk_g ht hx h
  have tx := lk_tx hx h
  have xt := lk_xt ht hx h
  obtain ⟨⟨⟨f1, f2, f3⟩, f6⟩, ⟨m1, m4, m5, m7⟩, hG, ⟨h9, p0, p1⟩, h10, h11, c0, cp⟩ := h
  have hN' : N + 10 * c ≤ 1000000 := by have := hx.1; omega
  obtain ⟨s1, s2, s3, s4⟩ := plS_at M
  -- what follows of the state the model reads to
  have fin : ∀ (q : Int) (u : Int → Int), 0 ≤ q → plB M = mst M q u → LkM M0 (plS M) ∧ plS M 155 11 = c + 1 ∧ (q ≤ I 52 1 → TxOK (plS M)) ∧ plS M 155 9 = q ∧ plS M 155 7 = M 155 7 := fun q u q0 hB => by
    obtain ⟨c1, c2, c3⟩ := plC_fr m5 hB
    have k9 : plS M 155 9 = q := by rw [s4 9 (by omega) (by omega), c3]
    have k7 : plS M 155 7 = M 155 7 := by rw [s4 7 (by omega) (by omega), c2 7 (by omega)]
    have k160 : plS M 160 = M 160 := by rw [s1 160 (by omega), c1 160 (by omega) (by omega) (by omega) (by omega)]
    refine ⟨⟨fun x a1 a2 a3 a4 => by rw [s1 x a1, c1 x a1 a2 a3 a4, m1 x a1 a2 a3 a4], by rw [s4 4 (by omega) (by omega), c2 4 (by omega), m4], by rw [s4 5 (by omega) (by omega), c2 5 (by omega), m5], by rw [k7, m7]⟩, by rw [s3, c2 11 (by omega), h11], fun ql => ?_, k9, k7⟩
    exact ⟨by rw [k9, k7, m7, hx.2.1]; exact ⟨q0, ql⟩, by rw [k7]; exact tx.2.1, fun i a b => by rw [k160]; exact tx.2.2 i a b⟩
  rcases rc_R T p with ⟨q', u', r1, r2⟩ | ⟨v, u', v0, v8, hc, r1⟩
  · -- no command
    obtain ⟨k1, q, u, q0, k2⟩ := pl_no h9 p0 (by rw [m7, hx.2.1]; omega) (fun v a b => by rw [g1]; exact r2 v a b)
    obtain ⟨l1, l2, l3, l4, l5⟩ := fin q u q0 k2
    have eR : plR M = -4 := by unfold plR; rw [k1, if_neg (by decide)]
    have hB : TxOK (plB M) := by
      unfold plB
      split
      · exact skF_ok 80 M tx
      · have sk := skF_ok 80 M tx
        unfold fqI
        have fm : TxOK (fqM (plA M) (plW M)).2 := by
          unfold fqM
          split
          · exact sk
          · split
            · split
              · split
                · exact rn_ok (rn_ok (rn_ok sk))
                · exact rn_ok (rn_ok sk)
              · exact rn_ok sk
            · split
              · split
                · split
                  · exact nu_ok (rn_ok sk)
                  · exact rn_ok (rn_ok sk)
                · exact rn_ok sk
              · exact nu_ok sk
        split
        · exact pa_ok fm
        · exact fm
    have ql : q ≤ I 52 1 := by
      have := hB.1
      rw [k2, mst_p, mst_5 _ _ _ (by omega), m7, hx.2.1] at this
      omega
    refine ⟨Or.inl ⟨?_, k1, eR, ?_⟩, l1, l3 ql, l2, s2, ?_⟩
    · unfold t5C; rw [r1]
    · have eK : t5K T p = cst T q' u' := by unfold t5K; rw [r1]
      rw [eK]
      exact ⟨fun x a1 a2 a3 a4 => by rw [show cst T q' u' x = T x from funext fun j => cst_x T q' u' a2 (by omega)]; exact f1 x a1 a2 a3 a4, by rw [cst_x T q' u' (by omega) (by omega)]; exact f2, by rw [cst_x T q' u' (by omega) (by omega)]; exact f3⟩
    · refine ⟨tx, fun z => absurd z (by rw [k1]; decide), ?_, Or.inl ?_, l5⟩
      · obtain ⟨c1, c2, c3⟩ := plC_fr m5 k2
        rw [c2 11 (by omega), h11]
        have := hx.1
        omega
      · rw [s2, eR, if_pos (by omega)]; omega
  · -- a command
    have hc' : cmP (gM M) p v := by rw [g1]; exact hc
    obtain ⟨k1, k2, k3⟩ := pl_yes h9 p0 v0 v8 hc'
    have rl := rs_last hc.2
    have kl0 : 3 ≤ kwL v := by unfold kwL; split <;> omega
    have nL : rsN (sgV T) (p + kwL v) v ≤ I 52 1 := by
      have a := sg_in (x := rsN (sgV T) (p + kwL v) v - 1) (T := T) (by rw [rl.2]; omega)
      omega
    rw [g1] at k3
    have eC : t5C T p = v := by unfold t5C; rw [r1]
    have eK : t5K T p = cst T (rsN (sgV T) (p + kwL v) v) (rsW (sgV T) (p + kwL v) v u') := by unfold t5K; rw [r1]
    have e4 : t5K T p 54 = rsW (sgV T) (p + kwL v) v u' := by rw [eK, cst_w]
    have e2 : plB M 162 = rsW (sgV T) (p + kwL v) v (M 162) := by rw [k3, mst_w]
    have Kx : ∀ x : Nat, x ≠ 54 → x ≠ 52 → t5K T p x = T x := fun x a1 a2 => by rw [eK]; exact funext fun j => cst_x T _ _ a1 (by omega)
    have t54 : 54 < t ∨ t + 25 ≤ 54 := RmB_far ht (by omega)
    have t52 : 52 < t ∨ t + 25 ≤ 52 := RmB_far ht (by omega)
    have t0 : 0 < t ∨ t + 25 ≤ 0 := RmB_far ht (by omega)
    have GK : GS (N + 10 * c) (t5K T p) t (plB M 156) := by
      rw [k3, mst_x _ _ _ (by omega) (by omega)]
      exact GS_VE (VE_same (fun x a b => Kx x (by omega) (by omega))) hG
    have h4 : plB M 155 4 = M0 155 4 := by rw [k3, mst_5 _ _ _ (by omega)]; exact m4
    have hD : DoOK (plB M) := DoOK_of GK hN' (by rw [h4]; exact hx.2.2.2.2)
    obtain ⟨q1, q2, q3, q4⟩ := ex_R (v := v) (x := t5K T p 54 0) (y := t5K T p 54 1) (z := t5K T p 54 2) GK hN' v0 v8 (fun a b => by
      rw [e4, e2]; unfold rsW
      by_cases y1 : v < 3
      · rw [if_pos y1, if_pos y1, fset_ne _ _ (by omega), fset_ne _ _ (by omega), fset_at, fset_ne _ _ (by omega), fset_ne _ _ (by omega), fset_at]
      rw [if_neg y1, if_neg y1]
      by_cases y2 : v = 3
      · rw [if_pos y2, if_pos y2, fset_ne _ _ (by omega), fset_at, fset_ne _ _ (by omega), fset_at]
      rw [if_neg y2, if_neg y2]
      by_cases y3 : v = 4
      · rw [if_pos y3, if_pos y3, fset_ne _ _ (by omega), fset_at, fset_ne _ _ (by omega), fset_at]
      rw [if_neg y3, if_neg y3, if_neg (by omega), if_neg (by omega), fset_at, fset_at]) (fun a => by
      rw [e4, e2]; unfold rsW
      by_cases y1 : v < 3
      · rw [if_pos y1, if_pos y1, fset_ne _ _ (by omega), fset_at, fset_ne _ _ (by omega), fset_at]
      rw [if_neg y1, if_neg y1]
      by_cases y2 : v = 3
      · rw [if_pos y2, if_pos y2, fset_at, fset_at]
      rw [if_neg y2, if_neg y2, if_pos (by omega), if_pos (by omega), fset_at, fset_at]) (fun a => by
      rw [e4, e2]; unfold rsW
      rw [if_pos a, if_pos a, fset_at, fset_at])
    have eR : plR M = doV (plB M) v := by unfold plR; rw [k2, if_pos rfl, k1]
    have eCm : plC M = doI (plB M) v := by unfold plC; rw [k2, if_pos rfl, k1]
    have eV : t5V t T p = doV (plB M) v := by unfold t5V; rw [eC]; exact q1
    have eL : ∀ x : Nat, x < t ∨ t + 25 ≤ x → t5L t T p x = t5K T p x := fun x hx => by unfold t5L; rw [eC]; exact q4 x hx
    have L3 : t5L t T p 52 3 = rsN (sgV T) (p + kwL v) v := by rw [eL 52 t52, eK, cst_p]
    obtain ⟨l1, l2, l3, l4, l5⟩ := fin _ _ (by omega) k3
    have lf : LkF I (t5L t T p) t := ⟨fun x a1 a2 a3 a4 => by rw [eL x a1, Kx x a2 a3]; exact f1 x a1 a2 a3 a4, by rw [eL 52 t52, eK, cst_x _ _ _ (by omega) (by omega)]; exact f2, by rw [eL 0 t0, eK, cst_x _ _ _ (by omega) (by omega)]; exact f3⟩
    have l06 : t5L t T p 0 6 = 0 := by rw [eL 0 t0, eK, cst_x _ _ _ (by omega) (by omega)]; exact f6
    refine ⟨Or.inr ⟨by rw [eC]; omega, by rw [eR]; exact q2, by rw [eV, eR], (RoOK_of GK hN').1, hD, lf, fun z => ⟨?_, by rw [L3]; omega⟩⟩, l1, l3 nL, l2, s2, ?_⟩
    · rw [eR] at z
      have gg := q3 z
      refine ⟨⟨lf, l06⟩, l1, ?_, ⟨by rw [l4, L3], by rw [L3]; omega, by rw [L3]; exact nL⟩, ?_, l2, by omega, by rw [L3]; omega⟩
      · rw [s1 156 (by omega), eCm]
        have e : t5L t T p = pfI (t5K T p) t (nR (t5K T p) t) (mR (t5K T p) t) (cR (t5K T p) t) v (t5K T p 54 0) (t5K T p 54 1) (t5K T p 54 2) := by unfold t5L; rw [eC]
        rw [e, show N + 10 * (c + 1) = N + 10 * c + 10 by omega]
        exact gg
      · rw [s2, eR, if_neg (by omega)]
    · refine ⟨tx, fun _ => hD, ?_, Or.inr (by rw [l4, h9]; omega), l5⟩
      obtain ⟨c1, c2, c3⟩ := plC_fr m5 k3
      rw [c2 11 (by omega), h11]
      have := hx.1
      omega
end LK
