theorem pn_i4 {o : Int32} : 3 < o ↔ 4 ≤ o := by
  have a : (3 : Int32).toInt = 3 := by decide
  have b : (4 : Int32).toInt = 4 := by decide
  rw [Int32.lt_iff_toInt_lt, Int32.le_iff_toInt_le, a, b]
  omega
theorem pn_34 {o : Int32} (h : ¬ 4 ≤ o) : ¬ 3 < o := fun z => h (pn_i4.mp z)
theorem pp_n2 {P : Int32} {p : Nat} (H : pn_P P p) : ¬ 2 ≤ P := by
  rcases H with ⟨rfl, rfl⟩ | ⟨rfl, rfl⟩ <;> decide
theorem pn_VQ_d {q : Nat → Int32} {p s : Nat} (V : pn_VQ q) (hs : s ≤ 8) : pn_VQ (upd q p (nI s)) := by
  intro j hj
  by_cases e : j = p
  · exact ⟨s, hs, by rw [e, pn_at]⟩
  · rw [pn_ne _ _ e]; exact V j hj
theorem pn_VO_r {lo hi ic : Nat → Int32} {i : Nat} {a b : Int32} (V : pn_VO lo hi ic) (ha : 0 ≤ a) (hb : 0 ≤ b ∧ b ≤ 65535) : pn_VO (upd lo i a) (upd hi i b) ic := by
  intro j hj
  refine ⟨?_, (V j hj).2⟩
  by_cases e : j = i
  · rw [e, pn_at, pn_at]; exact ⟨ha, hb.1, hb.2⟩
  · rw [pn_ne _ _ e, pn_ne _ _ e]; exact (V j hj).1
theorem pn_cl_r (v : Int32) : 0 ≤ pn_cl v 0 65535 ∧ pn_cl v 0 65535 ≤ 65535 := by
  unfold pn_cl
  by_cases h1 : 0 ≤ v
  · rw [if_pos h1]
    by_cases h2 : v ≤ 65535
    · rw [if_pos h2]; exact ⟨h1, h2⟩
    · rw [if_neg h2]; decide
  · rw [if_neg h1]; decide
section OP
variable {C T F K rc : Int32} {st rs ti ni cr hc nk ms ei us dn sa fi lo hi wa ic se lc rm w q ih vd ro no : Nat → Int32} {P : Int32} {p : Nat} {post : St2 → Prop}
variable {post1 : Int32 → Prop} {post3 : Int32 → St2 → Prop} {N e n : Nat} {R : Int32}
theorem iv_I_N {M : Nat} (hNM : N ≤ M) (hM : M < 2 ^ 31) (I : iv_I N p e st ni cr hc lo hi wa ic se lc rm w q no) : iv_I M p e st ni cr hc lo hi wa ic se lc rm w q no :=
  ⟨I.1, I.2.1, I.2.2.1, iv_K_N hNM hM I.2.2.2.1, I.2.2.2.2⟩
theorem iv_I_s (I : iv_I N p e st ni cr hc lo hi wa ic se lc rm w q no) : iv_I N e p st ni cr hc lo hi wa ic se lc rm w q no := by
  obtain ⟨VO, VQ, VN, KK, s, t, hs9, ht9, es, et, Fp, Fe⟩ := I
  exact ⟨VO, VQ, VN, iv_K_sw KK, t, s, ht9, hs9, et, es, Fe, Fp⟩
theorem xa_has1 (HP : pn_P P p) {s : Nat} (hs : q p = nI (s + 1)) (hs8 : s + 1 ≤ 8) (h : post1 1) : wpX_hasMessage post1 (C, T, F, K, rc, st, rs, ti, ni, cr, hc, nk, ms, ei, us, dn, sa, fi, lo, hi, wa, ic, se, lc, rm, w, q, ih, vd, ro, no) P := by
  unfold wpX_hasMessage
  refine xa_end1 HP (br_f (by decide) ⟨pp_v HP, ?_⟩)
  rw [pp_n HP, hs]
  exact br_f (nI_nle (by omega) (by omega)) h
theorem xa_has0 (HP : pn_P P p) (hs : q p = nI 0) (h : post1 0) : wpX_hasMessage post1 (C, T, F, K, rc, st, rs, ti, ni, cr, hc, nk, ms, ei, us, dn, sa, fi, lo, hi, wa, ic, se, lc, rm, w, q, ih, vd, ro, no) P := by
  unfold wpX_hasMessage
  refine xa_end1 HP (br_f (by decide) ⟨pp_v HP, ?_⟩)
  rw [pp_n HP, hs]
  exact br_t (by decide) h
theorem xa_hasE {v : Int32} (h0 : ¬ v = 0) (h1 : ¬ v = 1) (h : post1 0) : wpX_hasMessage post1 (C, T, F, K, rc, st, rs, ti, ni, cr, hc, nk, ms, ei, us, dn, sa, fi, lo, hi, wa, ic, se, lc, rm, w, q, ih, vd, ro, no) v := by
  unfold wpX_hasMessage
  exact xa_end0 h0 h1 (br_t rfl h)
theorem oq_open (HP : pn_P P p) (pq : p + e = 1) (hN : N + 2 < 2 ^ 31) (I : iv_I N p e st ni cr hc lo hi wa ic se lc rm w q no) (H : ∀ (r C T F K rc : Int32) (st rs ti ni cr hc nk ms ei us dn sa fi lo hi wa ic se lc rm w q ih vd ro no : Nat → Int32), iv_I (N + 2) p e st ni cr hc lo hi wa ic se lc rm w q no → post3 r (C, T, F, K, rc, st, rs, ti, ni, cr, hc, nk, ms, ei, us, dn, sa, fi, lo, hi, wa, ic, se, lc, rm, w, q, ih, vd, ro, no)) : wpX_open post3 (C, T, F, K, rc, st, rs, ti, ni, cr, hc, nk, ms, ei, us, dn, sa, fi, lo, hi, wa, ic, se, lc, rm, w, q, ih, vd, ro, no) P := by
  obtain ⟨VO, VQ, VN, KK, s, t, hs9, ht9, es, et, Fp, Fe⟩ := I
  have hp := pp_lt HP
  have pv := pp_v HP
  obtain ⟨z, hz8, ez⟩ := VQ p hp
  unfold wpX_open
  refine xa_end1 HP (br_f (by decide) ?_)
  refine ev_open HP pq (by omega) VO VQ VN KK es hs9 Fp et ht9 Fe ?_
  intro C1 T1 F1 K1 rc1 st1 rs1 ti1 ni1 cr1 hc1 nk1 ms1 ei1 us1 dn1 sa1 fi1 lo1 hi1 wa1 ic1 se1 lc1 rm1 w1 q1 ih1 vd1 ro1 no1 I1
  refine xa_setl HP ?_
  exact H _ _ _ _ _ _ _ _ _ _ _ _ _ _ _ _ _ _ _ _ _ _ _ _ _ _ _ _ _ _ _ _ (iv_I_N (by omega) hN I1)
theorem oq_close (HP : pn_P P p) (pq : p + e = 1) (hN : N + 2 < 2 ^ 31) (I : iv_I N p e st ni cr hc lo hi wa ic se lc rm w q no) (H : ∀ (r C T F K rc : Int32) (st rs ti ni cr hc nk ms ei us dn sa fi lo hi wa ic se lc rm w q ih vd ro no : Nat → Int32), iv_I (N + 2) p e st ni cr hc lo hi wa ic se lc rm w q no → post3 r (C, T, F, K, rc, st, rs, ti, ni, cr, hc, nk, ms, ei, us, dn, sa, fi, lo, hi, wa, ic, se, lc, rm, w, q, ih, vd, ro, no)) : wpX_close post3 (C, T, F, K, rc, st, rs, ti, ni, cr, hc, nk, ms, ei, us, dn, sa, fi, lo, hi, wa, ic, se, lc, rm, w, q, ih, vd, ro, no) P := by
  obtain ⟨VO, VQ, VN, KK, s, t, hs9, ht9, es, et, Fp, Fe⟩ := I
  have hp := pp_lt HP
  have pv := pp_v HP
  obtain ⟨z, hz8, ez⟩ := VQ p hp
  unfold wpX_close
  refine xa_end1 HP (br_f (by decide) ?_)
  refine ev_close HP pq (by omega) VO VQ VN KK es hs9 Fp et ht9 Fe ?_
  intro C1 T1 F1 K1 rc1 st1 rs1 ti1 ni1 cr1 hc1 nk1 ms1 ei1 us1 dn1 sa1 fi1 lo1 hi1 wa1 ic1 se1 lc1 rm1 w1 q1 ih1 vd1 ro1 no1 I1
  refine xa_setl HP ?_
  exact H _ _ _ _ _ _ _ _ _ _ _ _ _ _ _ _ _ _ _ _ _ _ _ _ _ _ _ _ _ _ _ _ (iv_I_N (by omega) hN I1)
theorem ev_up (HP : pn_P P p) (pq : p + e = 1) (hN : N + 1 < 2 ^ 31) (I : iv_I N p e st ni cr hc lo hi wa ic se lc rm w q no) (H : ∀ (C T F K rc : Int32) (st rs ti ni cr hc nk ms ei us dn sa fi lo hi wa ic se lc rm w q ih vd ro no : Nat → Int32), iv_I (N + 1) p e st ni cr hc lo hi wa ic se lc rm w q no → post (C, T, F, K, rc, st, rs, ti, ni, cr, hc, nk, ms, ei, us, dn, sa, fi, lo, hi, wa, ic, se, lc, rm, w, q, ih, vd, ro, no)) : wpX_onUp post (C, T, F, K, rc, st, rs, ti, ni, cr, hc, nk, ms, ei, us, dn, sa, fi, lo, hi, wa, ic, se, lc, rm, w, q, ih, vd, ro, no) P := by
  obtain ⟨VO, VQ, VN, KK, s, t, hs9, ht9, es, et, Fp, Fe⟩ := I
  have hp := pp_lt HP
  have pv := pp_v HP
  obtain ⟨z, hz8, ez⟩ := VQ p hp
  have KN := iv_K_N (Nat.le_succ N) hN KK
  unfold wpX_onUp
  refine ⟨pv, ?_⟩
  rw [pp_n HP]
  by_cases e0 : st p = 0
  · refine br_t e0 ⟨pv, nm_e ?_⟩
    exact H _ _ _ _ _ _ _ _ _ _ _ _ _ _ _ _ _ _ _ _ _ _ _ _ _ _ _ _ _ _ _ (iv_mk (n := 2) pq VO VQ VN KN (by decide) (iv_F_0 (by decide)) et ht9 Fe)
  · refine br_f e0 ⟨pv, ?_⟩
    by_cases e1 : st p = 1
    · refine br_t e1 (xa_breq HP ez hz8 ?_)
      have S0 := iv_start (d := p) pq Fe
      have S1 := iv_scr (d := p) pq ez hz8 hN KK S0.1 S0.2
      exact H _ _ _ _ _ _ _ _ _ _ _ _ _ _ _ _ _ _ _ _ _ _ _ _ _ _ _ _ _ _ _ (iv_mk (n := 6) pq (pn_VO_in VO) (pn_VQ_a VQ hp) VN S1.1 (by decide) S1.2.1 et ht9 S1.2.2)
    · refine br_f e1 ?_
      exact H _ _ _ _ _ _ _ _ _ _ _ _ _ _ _ _ _ _ _ _ _ _ _ _ _ _ _ _ _ _ _ (iv_ms VO VQ VN KN hs9 Fp es et ht9 Fe)
theorem oq_up (HP : pn_P P p) (pq : p + e = 1) (hN : N + 2 < 2 ^ 31) (I : iv_I N p e st ni cr hc lo hi wa ic se lc rm w q no) (H : ∀ (r C T F K rc : Int32) (st rs ti ni cr hc nk ms ei us dn sa fi lo hi wa ic se lc rm w q ih vd ro no : Nat → Int32), iv_I (N + 2) p e st ni cr hc lo hi wa ic se lc rm w q no → post3 r (C, T, F, K, rc, st, rs, ti, ni, cr, hc, nk, ms, ei, us, dn, sa, fi, lo, hi, wa, ic, se, lc, rm, w, q, ih, vd, ro, no)) : wpX_up post3 (C, T, F, K, rc, st, rs, ti, ni, cr, hc, nk, ms, ei, us, dn, sa, fi, lo, hi, wa, ic, se, lc, rm, w, q, ih, vd, ro, no) P := by
  have pv := pp_v HP
  unfold wpX_up
  refine xa_end1 HP (br_f (by decide) ⟨pv, br_c (fun _ => ?_) (fun _ => ?_)⟩)
  · refine ev_up HP pq (by omega) I ?_
    intro C1 T1 F1 K1 rc1 st1 rs1 ti1 ni1 cr1 hc1 nk1 ms1 ei1 us1 dn1 sa1 fi1 lo1 hi1 wa1 ic1 se1 lc1 rm1 w1 q1 ih1 vd1 ro1 no1 I1
    refine xa_setl HP ?_
    exact H _ _ _ _ _ _ _ _ _ _ _ _ _ _ _ _ _ _ _ _ _ _ _ _ _ _ _ _ _ _ _ _ (iv_I_N (by omega) hN I1)
  · exact H _ _ _ _ _ _ _ _ _ _ _ _ _ _ _ _ _ _ _ _ _ _ _ _ _ _ _ _ _ _ _ _ (iv_I_N (by omega) hN I)
theorem oq_down (HP : pn_P P p) (pq : p + e = 1) (hN : N + 2 < 2 ^ 31) (I : iv_I N p e st ni cr hc lo hi wa ic se lc rm w q no) (H : ∀ (r C T F K rc : Int32) (st rs ti ni cr hc nk ms ei us dn sa fi lo hi wa ic se lc rm w q ih vd ro no : Nat → Int32), iv_I (N + 2) p e st ni cr hc lo hi wa ic se lc rm w q no → post3 r (C, T, F, K, rc, st, rs, ti, ni, cr, hc, nk, ms, ei, us, dn, sa, fi, lo, hi, wa, ic, se, lc, rm, w, q, ih, vd, ro, no)) : wpX_down post3 (C, T, F, K, rc, st, rs, ti, ni, cr, hc, nk, ms, ei, us, dn, sa, fi, lo, hi, wa, ic, se, lc, rm, w, q, ih, vd, ro, no) P := by
  have I0 := I
  obtain ⟨VO, VQ, VN, KK, s, t, hs9, ht9, es, et, Fp, Fe⟩ := I
  have hp := pp_lt HP
  have pv := pp_v HP
  obtain ⟨z, hz8, ez⟩ := VQ p hp
  unfold wpX_down
  refine xa_end1 HP (br_f (by decide) ⟨pv, br_c (fun _ => ?_) (fun _ => ?_)⟩)
  · refine ev_down HP pq (by omega) VO VQ VN KK es hs9 Fp et ht9 Fe ?_
    intro C1 T1 F1 K1 rc1 st1 rs1 ti1 ni1 cr1 hc1 nk1 ms1 ei1 us1 dn1 sa1 fi1 lo1 hi1 wa1 ic1 se1 lc1 rm1 w1 q1 ih1 vd1 ro1 no1 I1
    refine xa_setl HP ?_
    exact H _ _ _ _ _ _ _ _ _ _ _ _ _ _ _ _ _ _ _ _ _ _ _ _ _ _ _ _ _ _ _ _ (iv_I_N (by omega) hN I1)
  · exact H _ _ _ _ _ _ _ _ _ _ _ _ _ _ _ _ _ _ _ _ _ _ _ _ _ _ _ _ _ _ _ _ (iv_I_N (by omega) hN I0)
theorem tk_one (HP : pn_P P p) (pq : p + e = 1) (hN : N + 1 < 2 ^ 31) (eN : P + 1 = R) (I : iv_I N p e st ni cr hc lo hi wa ic se lc rm w q no) (H : ∀ (C T F K rc : Int32) (st rs ti ni cr hc nk ms ei us dn sa fi lo hi wa ic se lc rm w q ih vd ro no : Nat → Int32), iv_I (N + 1) p e st ni cr hc lo hi wa ic se lc rm w q no → wX_tick_2 post n R C T F K rc st rs ti ni cr hc nk ms ei us dn sa fi lo hi wa ic se lc rm w q ih vd ro no) : wX_tick_2 post (n + 1) P C T F K rc st rs ti ni cr hc nk ms ei us dn sa fi lo hi wa ic se lc rm w q ih vd ro no := by
  have IN1 := iv_I_N (Nat.le_succ N) hN I
  obtain ⟨VO, VQ, VN, KK, s, t, hs9, ht9, es, et, Fp, Fe⟩ := I
  have hp := pp_lt HP
  have pv := pp_v HP
  obtain ⟨z, hz8, ez⟩ := VQ p hp
  refine br_f (pp_n2 HP) ?_
  by_cases h4 : st p < 4
  · exact xa_timed0 HP (Or.inl h4) (br_t rfl (nm_r eN (H _ _ _ _ _ _ _ _ _ _ _ _ _ _ _ _ _ _ _ _ _ _ _ _ _ _ _ _ _ _ _ IN1)))
  by_cases h8 : 8 < st p
  · exact xa_timed0 HP (Or.inr ⟨h4, h8⟩) (br_t rfl (nm_r eN (H _ _ _ _ _ _ _ _ _ _ _ _ _ _ _ _ _ _ _ _ _ _ _ _ _ _ _ _ _ _ _ IN1)))
  have hs4 : 4 ≤ s := Nat.le_of_not_lt (fun z => h4 (by rw [es]; exact nI_lt (b := 4) z (by decide)))
  have hs8 : s ≤ 8 := Nat.le_of_not_lt (fun z => h8 (by rw [es]; exact nI_lt (a := 8) z (by omega)))
  refine xa_timed1 HP h4 h8 (br_f (by decide) ⟨pv, br_c (fun _ => nm_r eN (H _ _ _ _ _ _ _ _ _ _ _ _ _ _ _ _ _ _ _ _ _ _ _ _ _ _ _ _ _ _ _ IN1)) (fun _ => ⟨pv, pv, nm_e ⟨pv, br_c (fun _ => ?_) (fun _ => nm_r eN (H _ _ _ _ _ _ _ _ _ _ _ _ _ _ _ _ _ _ _ _ _ _ _ _ _ _ _ _ _ _ _ IN1))⟩⟩)⟩)
  by_cases hr : 0 < rs p
  · refine ev_top HP pq hN VO VQ VN KK es hs9 Fp et ht9 Fe hr hs4 hs8 ?_
    intro C1 T1 F1 K1 rc1 st1 rs1 ti1 ni1 cr1 hc1 nk1 ms1 ei1 us1 dn1 sa1 fi1 lo1 hi1 wa1 ic1 se1 lc1 rm1 w1 q1 ih1 vd1 ro1 no1 I1
    exact xa_setl HP (nm_r eN (H _ _ _ _ _ _ _ _ _ _ _ _ _ _ _ _ _ _ _ _ _ _ _ _ _ _ _ _ _ _ _ I1))
  · refine ev_tom HP pq hN VO VQ VN KK es hs9 Fp et ht9 Fe hr hs4 hs8 ?_
    intro C1 T1 F1 K1 rc1 st1 rs1 ti1 ni1 cr1 hc1 nk1 ms1 ei1 us1 dn1 sa1 fi1 lo1 hi1 wa1 ic1 se1 lc1 rm1 w1 q1 ih1 vd1 ro1 no1 I1
    exact xa_setl HP (nm_r eN (H _ _ _ _ _ _ _ _ _ _ _ _ _ _ _ _ _ _ _ _ _ _ _ _ _ _ _ _ _ _ _ I1))
theorem oq_tick (hN : N + 2 < 2 ^ 31) (I : iv_I N 0 1 st ni cr hc lo hi wa ic se lc rm w q no) (H : ∀ (C T F K rc : Int32) (st rs ti ni cr hc nk ms ei us dn sa fi lo hi wa ic se lc rm w q ih vd ro no : Nat → Int32), iv_I (N + 2) 0 1 st ni cr hc lo hi wa ic se lc rm w q no → post (C, T, F, K, rc, st, rs, ti, ni, cr, hc, nk, ms, ei, us, dn, sa, fi, lo, hi, wa, ic, se, lc, rm, w, q, ih, vd, ro, no)) : wpX_tick post (C, T, F, K, rc, st, rs, ti, ni, cr, hc, nk, ms, ei, us, dn, sa, fi, lo, hi, wa, ic, se, lc, rm, w, q, ih, vd, ro, no) := by
  unfold wpX_tick
  refine ⟨3, tk_one pp_0 (by decide) (by omega) (R := 1) (by decide) I ?_⟩
  intro C1 T1 F1 K1 rc1 st1 rs1 ti1 ni1 cr1 hc1 nk1 ms1 ei1 us1 dn1 sa1 fi1 lo1 hi1 wa1 ic1 se1 lc1 rm1 w1 q1 ih1 vd1 ro1 no1 I1
  refine tk_one pp_1 (by decide) (by omega) (R := 2) (by decide) (iv_I_s I1) ?_
  intro C2 T2 F2 K2 rc2 st2 rs2 ti2 ni2 cr2 hc2 nk2 ms2 ei2 us2 dn2 sa2 fi2 lo2 hi2 wa2 ic2 se2 lc2 rm2 w2 q2 ih2 vd2 ro2 no2 I2
  exact br_t (by decide) (H _ _ _ _ _ _ _ _ _ _ _ _ _ _ _ _ _ _ _ _ _ _ _ _ _ _ _ _ _ _ _ (iv_I_s I2))
theorem iv_I_tk (pq : p + e = 1) {s : Nat} (hs : q p = nI (s + 1)) (hs8 : s + 1 ≤ 8) (I : iv_I N p e st ni cr hc lo hi wa ic se lc rm w q no) : iv_I N p e st ni cr hc lo hi wa ic se lc rm (pn_sh w (p * 56) (s * 7)) (upd q p (nI s)) no ∧ iv_m cr hc se rm p e (fun f => w (p * 56 + f)) := by
  obtain ⟨VO, VQ, VN, KK, X⟩ := I
  have T := iv_K_tk pq hs hs8 KK
  exact ⟨⟨VO, pn_VQ_d VQ (by omega), VN, T.1, X⟩, T.2⟩
theorem iv_I_ap (pq : p + e = 1) (hp : p < 2) {s : Nat} {c i d x0 x1 x2 x3 : Int32} (hs : q p = nI s) (hs8 : s ≤ 8) (I : iv_I N p e st ni cr hc lo hi wa ic se lc rm w q no) (hm : iv_m cr hc se rm p e (pn_m c i d x0 x1 x2 x3)) : iv_I N p e st ni cr hc lo hi wa ic se lc rm (pn_aw w q p c i d x0 x1 x2 x3) (pn_aq q p) no := by
  obtain ⟨VO, VQ, VN, KK, X⟩ := I
  exact ⟨VO, pn_VQ_a VQ hp, VN, iv_K_app pq hs hs8 KK hm, X⟩
theorem iv_m_7 {m : Nat → Int32} (I : iv_m cr hc se rm p e m) : iv_m cr hc se rm p e (pn_m (m 0) (m 1) (m 2) (m (3 + 0)) (m (3 + 1)) (m (3 + 2)) (m (3 + 3))) := by
  refine iv_m_x ?_ I
  intro f hf
  have h : f = 0 ∨ f = 1 ∨ f = 2 ∨ f = 3 ∨ f = 4 ∨ f = 5 ∨ f = 6 := by omega
  rcases h with rfl | rfl | rfl | rfl | rfl | rfl | rfl <;> rfl
theorem oq_drop (HP : pn_P P p) (pq : p + e = 1) (hN : N + 2 < 2 ^ 31) (I : iv_I N p e st ni cr hc lo hi wa ic se lc rm w q no) (H : ∀ (r C T F K rc : Int32) (st rs ti ni cr hc nk ms ei us dn sa fi lo hi wa ic se lc rm w q ih vd ro no : Nat → Int32), iv_I (N + 2) p e st ni cr hc lo hi wa ic se lc rm w q no → post3 r (C, T, F, K, rc, st, rs, ti, ni, cr, hc, nk, ms, ei, us, dn, sa, fi, lo, hi, wa, ic, se, lc, rm, w, q, ih, vd, ro, no)) : wpX_drop post3 (C, T, F, K, rc, st, rs, ti, ni, cr, hc, nk, ms, ei, us, dn, sa, fi, lo, hi, wa, ic, se, lc, rm, w, q, ih, vd, ro, no) P := by
  have hp := pp_lt HP
  obtain ⟨z, hz8, ez⟩ := I.2.1 p hp
  have hcase : z = 0 ∨ ∃ s, z = s + 1 := by
    rcases Nat.eq_zero_or_pos z with h | h
    · exact Or.inl h
    · exact Or.inr ⟨z - 1, by omega⟩
  unfold wpX_drop
  rcases hcase with rfl | ⟨s, rfl⟩
  · exact xa_has0 HP ez (br_t rfl (H _ _ _ _ _ _ _ _ _ _ _ _ _ _ _ _ _ _ _ _ _ _ _ _ _ _ _ _ _ _ _ _ (iv_I_N (by omega) hN I)))
  · refine xa_has1 HP ez hz8 (br_f (by decide) (xa_take HP ez hz8 ?_))
    exact H _ _ _ _ _ _ _ _ _ _ _ _ _ _ _ _ _ _ _ _ _ _ _ _ _ _ _ _ _ _ _ _ (iv_I_N (by omega) hN (iv_I_tk pq ez hz8 I).1)
theorem oq_rotate (HP : pn_P P p) (pq : p + e = 1) (hN : N + 2 < 2 ^ 31) (I : iv_I N p e st ni cr hc lo hi wa ic se lc rm w q no) (H : ∀ (r C T F K rc : Int32) (st rs ti ni cr hc nk ms ei us dn sa fi lo hi wa ic se lc rm w q ih vd ro no : Nat → Int32), iv_I (N + 2) p e st ni cr hc lo hi wa ic se lc rm w q no → post3 r (C, T, F, K, rc, st, rs, ti, ni, cr, hc, nk, ms, ei, us, dn, sa, fi, lo, hi, wa, ic, se, lc, rm, w, q, ih, vd, ro, no)) : wpX_rotate post3 (C, T, F, K, rc, st, rs, ti, ni, cr, hc, nk, ms, ei, us, dn, sa, fi, lo, hi, wa, ic, se, lc, rm, w, q, ih, vd, ro, no) P := by
  have hp := pp_lt HP
  obtain ⟨z, hz8, ez⟩ := I.2.1 p hp
  have hcase : z = 0 ∨ ∃ s, z = s + 1 := by
    rcases Nat.eq_zero_or_pos z with h | h
    · exact Or.inl h
    · exact Or.inr ⟨z - 1, by omega⟩
  unfold wpX_rotate
  rcases hcase with rfl | ⟨s, rfl⟩
  · exact xa_has0 HP ez (br_t rfl (H _ _ _ _ _ _ _ _ _ _ _ _ _ _ _ _ _ _ _ _ _ _ _ _ _ _ _ _ _ _ _ _ (iv_I_N (by omega) hN I)))
  · have s8 : s ≤ 8 := by omega
    have eq2 : upd q p (nI s) p = nI s := pn_at _ _ _
    have T := iv_I_tk pq ez hz8 I
    refine xa_has1 HP ez hz8 (br_f (by decide) (xa_take HP ez hz8 (xa_app_ih HP eq2 s8 ?_)))
    exact H _ _ _ _ _ _ _ _ _ _ _ _ _ _ _ _ _ _ _ _ _ _ _ _ _ _ _ _ _ _ _ _ (iv_I_N (by omega) hN (iv_I_ap pq hp eq2 s8 T.1 (iv_m_7 (iv_m_x (fun f hf => pn_l7_at _ _ hf) T.2))))
theorem oq_deliver (HP : pn_P P p) (HR : pn_P R e) (eR : 1 - P = R) (pq : p + e = 1) (hN : N + 2 < 2 ^ 31) (I : iv_I N p e st ni cr hc lo hi wa ic se lc rm w q no) (H : ∀ (r C T F K rc : Int32) (st rs ti ni cr hc nk ms ei us dn sa fi lo hi wa ic se lc rm w q ih vd ro no : Nat → Int32), iv_I (N + 2) p e st ni cr hc lo hi wa ic se lc rm w q no → post3 r (C, T, F, K, rc, st, rs, ti, ni, cr, hc, nk, ms, ei, us, dn, sa, fi, lo, hi, wa, ic, se, lc, rm, w, q, ih, vd, ro, no)) : wpX_deliver post3 (C, T, F, K, rc, st, rs, ti, ni, cr, hc, nk, ms, ei, us, dn, sa, fi, lo, hi, wa, ic, se, lc, rm, w, q, ih, vd, ro, no) P := by
  have hp := pp_lt HP
  obtain ⟨z, hz8, ez⟩ := I.2.1 p hp
  have hcase : z = 0 ∨ ∃ s, z = s + 1 := by
    rcases Nat.eq_zero_or_pos z with h | h
    · exact Or.inl h
    · exact Or.inr ⟨z - 1, by omega⟩
  unfold wpX_deliver
  rcases hcase with rfl | ⟨s, rfl⟩
  · exact xa_has0 HP ez (br_t rfl (H _ _ _ _ _ _ _ _ _ _ _ _ _ _ _ _ _ _ _ _ _ _ _ _ _ _ _ _ _ _ _ _ (iv_I_N (by omega) hN I)))
  · have T := iv_I_tk pq ez hz8 I
    have I2 := iv_I_s T.1
    have hM : ∀ f, f < 7 → pn_l7 ih (fun f => w (p * 56 + f)) f = (fun f => w (p * 56 + f)) f := fun f hf => pn_l7_at _ _ hf
    refine xa_has1 HP ez hz8 (br_f (by decide) (xa_take HP ez hz8 ?_))
    refine nm_r eR ⟨pp_v HR, ?_⟩
    rw [pp_n HR]
    by_cases c1 : st e ≤ 1
    · refine br_t c1 ?_
      exact H _ _ _ _ _ _ _ _ _ _ _ _ _ _ _ _ _ _ _ _ _ _ _ _ _ _ _ _ _ _ _ _ (iv_I_N (by omega) hN T.1)
    · refine br_f c1 ?_
      obtain ⟨VO, VQ, VN, KK, s2, t, hs9, ht9, es, et, Fp, Fe⟩ := I2
      have hs2 : 2 ≤ s2 := by
        rw [es] at c1
        have : ¬ s2 ≤ 1 := fun z => c1 (nI_le (b := 1) z (by decide))
        omega
      refine rv_all HR (by omega) (by omega) VO VQ VN KK es hs9 Fp et ht9 Fe hM hs2 T.2 ?_
      intro C1 T1 F1 K1 rc1 st1 rs1 ti1 ni1 cr1 hc1 nk1 ms1 ei1 us1 dn1 sa1 fi1 lo1 hi1 wa1 ic1 se1 lc1 rm1 w1 q1 ih1 vd1 ro1 no1 I1
      refine xa_setl HR ?_
      exact H _ _ _ _ _ _ _ _ _ _ _ _ _ _ _ _ _ _ _ _ _ _ _ _ _ _ _ _ _ _ _ _ (iv_I_N (by omega) hN (iv_I_s I1))
theorem xs_dup {b t j : Nat} {v : Int32} (hb : b ≤ 105) (htl : t ≤ 105) (hv : w (b + j) = v) (hj : j < 7) (h : wX_duplicate_44 post3 P (nI b) (nI t) C T F K rc n (nI (j + 1)) st rs ti ni cr hc nk ms ei us dn sa fi lo hi wa ic se lc rm (upd w (t + j) v) q ih vd ro no) : wX_duplicate_44 post3 P (nI b) (nI t) C T F K rc (n + 1) (nI j) st rs ti ni cr hc nk ms ei us dn sa fi lo hi wa ic se lc rm w q ih vd ro no := by
  refine br_f (pp_g7 hj) ?_
  rw [pp_bk hb hj, pp_bk htl hj, hv]
  exact ⟨pp_vbk hb hj, pp_vbk htl hj, nm_e (nm_r (nI_1 j) h)⟩
theorem oq_duplicate (HP : pn_P P p) (pq : p + e = 1) (hN : N + 2 < 2 ^ 31) (I : iv_I N p e st ni cr hc lo hi wa ic se lc rm w q no) (H : ∀ (r C T F K rc : Int32) (st rs ti ni cr hc nk ms ei us dn sa fi lo hi wa ic se lc rm w q ih vd ro no : Nat → Int32), iv_I (N + 2) p e st ni cr hc lo hi wa ic se lc rm w q no → post3 r (C, T, F, K, rc, st, rs, ti, ni, cr, hc, nk, ms, ei, us, dn, sa, fi, lo, hi, wa, ic, se, lc, rm, w, q, ih, vd, ro, no)) : wpX_duplicate post3 (C, T, F, K, rc, st, rs, ti, ni, cr, hc, nk, ms, ei, us, dn, sa, fi, lo, hi, wa, ic, se, lc, rm, w, q, ih, vd, ro, no) P := by
  have hp := pp_lt HP
  have pv := pp_v HP
  obtain ⟨z, hz8, ez⟩ := I.2.1 p hp
  have hcase : z = 0 ∨ ∃ s, z = s + 1 := by
    rcases Nat.eq_zero_or_pos z with h | h
    · exact Or.inl h
    · exact Or.inr ⟨z - 1, by omega⟩
  unfold wpX_duplicate
  rcases hcase with rfl | ⟨s, rfl⟩
  · exact xa_has0 HP ez (br_t rfl (H _ _ _ _ _ _ _ _ _ _ _ _ _ _ _ _ _ _ _ _ _ _ _ _ _ _ _ _ _ _ _ _ (iv_I_N (by omega) hN I)))
  · refine xa_has1 HP ez hz8 (br_f (by decide) ⟨pv, ?_⟩)
    rw [pp_n HP, ez]
    by_cases h8 : s + 1 < 8
    · have hb : p * 56 ≤ 105 := by omega
      have htl : p * 56 + (s + 1) * 7 ≤ 105 := by omega
      have T := iv_I_tk pq ez hz8 I
      have A := iv_I_ap (c := w (p * 56 + 0)) (i := w (p * 56 + 1)) (d := w (p * 56 + 2)) (x0 := w (p * 56 + 3)) (x1 := w (p * 56 + 4)) (x2 := w (p * 56 + 5)) (x3 := w (p * 56 + 6)) pq hp ez hz8 I (iv_m_7 T.2)
      rw [pn_aw_lt ez h8, pn_aq_lt ez h8] at A
      refine br_t (nI_lt (b := 8) h8 (by decide)) (nm_r (pp_b0 HP) ⟨pv, ?_⟩)
      rw [show nI (s + 1) * 7 = nI ((s + 1) * 7) from pn_mul _ 7]
      refine nm_r (nI_add _ _) ⟨8, ?_⟩
      refine xs_dup hb htl (j := 0) (v := w (p * 56 + 0)) ?_ (by decide) (xs_dup hb htl (j := 1) (v := w (p * 56 + 1)) ?_ (by decide) (xs_dup hb htl (j := 2) (v := w (p * 56 + 2)) ?_ (by decide) (xs_dup hb htl (j := 3) (v := w (p * 56 + 3)) ?_ (by decide) (xs_dup hb htl (j := 4) (v := w (p * 56 + 4)) ?_ (by decide) (xs_dup hb htl (j := 5) (v := w (p * 56 + 5)) ?_ (by decide) (xs_dup hb htl (j := 6) (v := w (p * 56 + 6)) ?_ (by decide) (br_t pp_77 ⟨pv, pv, ?_⟩)))))))
      · rfl
      · rw [pn_ne _ _ (by omega)]
      · rw [pn_ne _ _ (by omega), pn_ne _ _ (by omega)]
      · rw [pn_ne _ _ (by omega), pn_ne _ _ (by omega), pn_ne _ _ (by omega)]
      · rw [pn_ne _ _ (by omega), pn_ne _ _ (by omega), pn_ne _ _ (by omega), pn_ne _ _ (by omega)]
      · rw [pn_ne _ _ (by omega), pn_ne _ _ (by omega), pn_ne _ _ (by omega), pn_ne _ _ (by omega), pn_ne _ _ (by omega)]
      · rw [pn_ne _ _ (by omega), pn_ne _ _ (by omega), pn_ne _ _ (by omega), pn_ne _ _ (by omega), pn_ne _ _ (by omega), pn_ne _ _ (by omega)]
      rw [pp_n HP]
      exact nm_e (H _ _ _ _ _ _ _ _ _ _ _ _ _ _ _ _ _ _ _ _ _ _ _ _ _ _ _ _ _ _ _ _ (iv_I_N (by omega) hN A))
    · have n8 : ¬ nI (s + 1) < 8 := pn_n8 h8 hz8
      exact br_f n8 (H _ _ _ _ _ _ _ _ _ _ _ _ _ _ _ _ _ _ _ _ _ _ _ _ _ _ _ _ _ _ _ _ (iv_I_N (by omega) hN I))
theorem oq_echo (HP : pn_P P p) (pq : p + e = 1) (hN : N + 2 < 2 ^ 31) (I : iv_I N p e st ni cr hc lo hi wa ic se lc rm w q no) (H : ∀ (r C T F K rc : Int32) (st rs ti ni cr hc nk ms ei us dn sa fi lo hi wa ic se lc rm w q ih vd ro no : Nat → Int32), iv_I (N + 2) p e st ni cr hc lo hi wa ic se lc rm w q no → post3 r (C, T, F, K, rc, st, rs, ti, ni, cr, hc, nk, ms, ei, us, dn, sa, fi, lo, hi, wa, ic, se, lc, rm, w, q, ih, vd, ro, no)) : wpX_echo post3 (C, T, F, K, rc, st, rs, ti, ni, cr, hc, nk, ms, ei, us, dn, sa, fi, lo, hi, wa, ic, se, lc, rm, w, q, ih, vd, ro, no) P := by
  have I0 := I
  obtain ⟨VO, VQ, VN, KK, s, t, hs9, ht9, es, et, Fp, Fe⟩ := I
  have hp := pp_lt HP
  have pv := pp_v HP
  obtain ⟨z, hz8, ez⟩ := VQ p hp
  unfold wpX_echo
  refine xa_end1 HP (br_f (by decide) ⟨pv, br_c (fun _ => ⟨pv, br_c (fun _ => ?_) (fun _ => ?_)⟩) (fun _ => H _ _ _ _ _ _ _ _ _ _ _ _ _ _ _ _ _ _ _ _ _ _ _ _ _ _ _ _ _ _ _ _ (iv_I_N (by omega) hN I0))⟩)
  · refine ⟨pv, pv, nm_e ⟨pv, pv, nm_e ⟨pv, ?_⟩⟩⟩
    rw [pp_n HP]
    refine xa_app0 HP VN ez hz8 ⟨pv, pv, nm_e ?_⟩
    exact H _ _ _ _ _ _ _ _ _ _ _ _ _ _ _ _ _ _ _ _ _ _ _ _ _ _ _ _ _ _ _ _ (iv_ms VO (pn_VQ_a VQ hp) VN (iv_K_N (by omega) hN (iv_K_c pq ez hz8 (iv_ni pq (by omega) KK) (by decide) (by decide))) hs9 Fp es et ht9 Fe)
  · refine ev_down HP pq (by omega) VO VQ VN KK es hs9 Fp et ht9 Fe ?_
    intro C1 T1 F1 K1 rc1 st1 rs1 ti1 ni1 cr1 hc1 nk1 ms1 ei1 us1 dn1 sa1 fi1 lo1 hi1 wa1 ic1 se1 lc1 rm1 w1 q1 ih1 vd1 ro1 no1 I1
    refine ev_up HP pq (by omega) I1 ?_
    intro C2 T2 F2 K2 rc2 st2 rs2 ti2 ni2 cr2 hc2 nk2 ms2 ei2 us2 dn2 sa2 fi2 lo2 hi2 wa2 ic2 se2 lc2 rm2 w2 q2 ih2 vd2 ro2 no2 I2
    refine xa_setl HP ⟨pv, nm_e ?_⟩
    exact H _ _ _ _ _ _ _ _ _ _ _ _ _ _ _ _ _ _ _ _ _ _ _ _ _ _ _ _ _ _ _ _ I2
theorem oq_inject (HP : pn_P P p) (pq : p + e = 1) (hN : N + 2 < 2 ^ 31) (I : iv_I N p e st ni cr hc lo hi wa ic se lc rm w q no) (c d : Int32) (H : ∀ (r C T F K rc : Int32) (st rs ti ni cr hc nk ms ei us dn sa fi lo hi wa ic se lc rm w q ih vd ro no : Nat → Int32), iv_I (N + 2) p e st ni cr hc lo hi wa ic se lc rm w q no → post3 r (C, T, F, K, rc, st, rs, ti, ni, cr, hc, nk, ms, ei, us, dn, sa, fi, lo, hi, wa, ic, se, lc, rm, w, q, ih, vd, ro, no)) : wpX_inject post3 (C, T, F, K, rc, st, rs, ti, ni, cr, hc, nk, ms, ei, us, dn, sa, fi, lo, hi, wa, ic, se, lc, rm, w, q, ih, vd, ro, no) P c d := by
  have I0 := I
  obtain ⟨VO, VQ, VN, KK, s, t, hs9, ht9, es, et, Fp, Fe⟩ := I
  have hp := pp_lt HP
  have pv := pp_v HP
  obtain ⟨z, hz8, ez⟩ := VQ p hp
  have ok : ¬ c = 1 → ¬ c = 2 → wpX_append_2 (fun u => post3 1 u) (C, T, F, K, rc, st, rs, ti, ni, cr, hc, nk, ms, ei, us, dn, sa, fi, lo, hi, wa, ic, se, lc, rm, w, q, ih, vd, ro, no) P c 0 d 0 := by
    intro n1 n2
    refine xa_app0 HP VN ez hz8 ?_
    exact H _ _ _ _ _ _ _ _ _ _ _ _ _ _ _ _ _ _ _ _ _ _ _ _ _ _ _ _ _ _ _ _ (iv_ms VO (pn_VQ_a VQ hp) VN (iv_K_N (by omega) hN (iv_K_c pq ez hz8 KK n1 n2)) hs9 Fp es et ht9 Fe)
  unfold wpX_inject
  refine xa_end1 HP (br_f (by decide) ?_)
  unfold wpX_isPeersOwnCode wX_isPeersOwnCode_11
  have N0 : post3 0 (C, T, F, K, rc, st, rs, ti, ni, cr, hc, nk, ms, ei, us, dn, sa, fi, lo, hi, wa, ic, se, lc, rm, w, q, ih, vd, ro, no) := H _ _ _ _ _ _ _ _ _ _ _ _ _ _ _ _ _ _ _ _ _ _ _ _ _ _ _ _ _ _ _ _ (iv_I_N (by omega) hN I0)
  by_cases c1 : c < 1
  · have n1 : ¬ c = 1 := by intro zz; rw [zz] at c1; revert c1; decide
    have n2 : ¬ c = 2 := by intro zz; rw [zz] at c1; revert c1; decide
    refine br_t c1 (br_c (fun _ => br_f (by decide) N0) (fun _ => br_c (fun _ => br_f (by decide) N0) (fun _ => br_t rfl ⟨pv, br_c (fun _ => ?_) (fun _ => N0)⟩)))
    exact ok n1 n2
  · by_cases c6 : c ≤ 6
    · exact br_f c1 (br_t c6 (br_f (by decide) N0))
    · have n1 : ¬ c = 1 := by intro zz; rw [zz] at c6; revert c6; decide
      have n2 : ¬ c = 2 := by intro zz; rw [zz] at c6; revert c6; decide
      refine br_f c1 (br_f c6 (br_c (fun _ => br_f (by decide) N0) (fun _ => br_c (fun _ => br_f (by decide) N0) (fun _ => br_t rfl ⟨pv, br_c (fun _ => ?_) (fun _ => N0)⟩))))
      exact ok n1 n2
theorem oq_setRange (HP : pn_P P p) (pq : p + e = 1) (hN : N + 2 < 2 ^ 31) (I : iv_I N p e st ni cr hc lo hi wa ic se lc rm w q no) (o a b : Int32) (H : ∀ (r C T F K rc : Int32) (st rs ti ni cr hc nk ms ei us dn sa fi lo hi wa ic se lc rm w q ih vd ro no : Nat → Int32), iv_I (N + 2) p e st ni cr hc lo hi wa ic se lc rm w q no → post3 r (C, T, F, K, rc, st, rs, ti, ni, cr, hc, nk, ms, ei, us, dn, sa, fi, lo, hi, wa, ic, se, lc, rm, w, q, ih, vd, ro, no)) : wpX_setRange post3 (C, T, F, K, rc, st, rs, ti, ni, cr, hc, nk, ms, ei, us, dn, sa, fi, lo, hi, wa, ic, se, lc, rm, w, q, ih, vd, ro, no) P o a b := by
  have I0 := I
  obtain ⟨VO, VQ, VN, KK, s, t, hs9, ht9, es, et, Fp, Fe⟩ := I
  have hp := pp_lt HP
  have pv := pp_v HP
  obtain ⟨z, hz8, ez⟩ := VQ p hp
  have N0 : post3 0 (C, T, F, K, rc, st, rs, ti, ni, cr, hc, nk, ms, ei, us, dn, sa, fi, lo, hi, wa, ic, se, lc, rm, w, q, ih, vd, ro, no) := H _ _ _ _ _ _ _ _ _ _ _ _ _ _ _ _ _ _ _ _ _ _ _ _ _ _ _ _ _ _ _ _ (iv_I_N (by omega) hN I0)
  unfold wpX_setRange
  refine xa_end1 HP (br_f (by decide) ?_)
  unfold wpX_isOption
  by_cases o0 : o < 0
  · exact br_t o0 (br_t rfl N0)
  by_cases o4 : 4 ≤ o
  · exact br_f o0 (br_t o4 (br_t rfl N0))
  obtain ⟨i, hi4, rfl⟩ := nI_of2 (M := 3) (n := 3) (by decide) o0 (Int32.not_lt.mp (pn_34 o4))
  have hk : i < 4 := by omega
  refine br_f o0 (br_f o4 (br_f (by decide) ⟨pv, ?_⟩))
  rw [pp_n HP]
  by_cases s4 : st p < 4
  · refine br_t s4 ?_
    intro x5 e5
    have ex : x5.toNatClampNeg = p * 4 + i := by rw [e5, pp_4 HP hk]
    have vx : vp_in x5 8 := by rw [e5]; exact pp_v4 HP hk
    rw [ex]
    have hs4 : s < 4 := by
      rw [es] at s4
      exact (nI_ltI (b := 4) (by omega) (by decide)).mp s4
    refine xa_clamp ⟨vx, nm_e (xa_clamp ⟨vx, nm_e ?_⟩)⟩
    exact H _ _ _ _ _ _ _ _ _ _ _ _ _ _ _ _ _ _ _ _ _ _ _ _ _ _ _ _ _ _ _ _ (iv_ms (pn_VO_r VO (pn_cl_r a).1 (pn_cl_r b)) VQ VN (iv_K_N (by omega) hN KK) hs9 (iv_F_0 hs4) es et ht9 (iv_rng pq hk Fe))
  · exact br_f s4 N0
end OP
