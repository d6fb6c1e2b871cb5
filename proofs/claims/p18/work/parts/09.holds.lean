def iv_U (N : Nat) (u : St2) : Prop := ∃ (C T F K rc : Int32) (st rs ti ni cr hc nk ms ei us dn sa fi lo hi wa ic se lc rm w q ih vd ro no : Nat → Int32), u = (C, T, F, K, rc, st, rs, ti, ni, cr, hc, nk, ms, ei, us, dn, sa, fi, lo, hi, wa, ic, se, lc, rm, w, q, ih, vd, ro, no) ∧ iv_I N 0 1 st ni cr hc lo hi wa ic se lc rm w q no
section MU
variable {C T F K rc : Int32} {st rs ti ni cr hc nk ms ei us dn sa fi lo hi wa ic se lc rm w q ih vd ro no : Nat → Int32} {P : Int32} {p : Nat} {post : St2 → Prop}
variable {post1 : Int32 → Prop} {post3 : Int32 → St2 → Prop} {N : Nat} {u : St2}
theorem iu_open (v : Int32) (hN : N + 2 < 2 ^ 31) (I : iv_U N u) (H : ∀ r u', iv_U (N + 2) u' → post3 r u') : wpX_open post3 u v := by
  obtain ⟨C, T, F, K, rc, st, rs, ti, ni, cr, hc, nk, ms, ei, us, dn, sa, fi, lo, hi, wa, ic, se, lc, rm, w, q, ih, vd, ro, no, rfl, I⟩ := I
  by_cases c0 : v = 0
  · subst c0
    exact oq_open pp_0 (by decide) hN I (fun r C1 T1 F1 K1 rc1 st1 rs1 ti1 ni1 cr1 hc1 nk1 ms1 ei1 us1 dn1 sa1 fi1 lo1 hi1 wa1 ic1 se1 lc1 rm1 w1 q1 ih1 vd1 ro1 no1 I1 => H r _ ⟨_, _, _, _, _, _, _, _, _, _, _, _, _, _, _, _, _, _, _, _, _, _, _, _, _, _, _, _, _, _, _, rfl, I1⟩)
  by_cases c1 : v = 1
  · subst c1
    exact oq_open pp_1 (by decide) hN (iv_I_s I) (fun r C1 T1 F1 K1 rc1 st1 rs1 ti1 ni1 cr1 hc1 nk1 ms1 ei1 us1 dn1 sa1 fi1 lo1 hi1 wa1 ic1 se1 lc1 rm1 w1 q1 ih1 vd1 ro1 no1 I1 => H r _ ⟨_, _, _, _, _, _, _, _, _, _, _, _, _, _, _, _, _, _, _, _, _, _, _, _, _, _, _, _, _, _, _, rfl, iv_I_s I1⟩)
  unfold wpX_open
  refine xa_end0 c0 c1 (br_t rfl ?_)
  exact H _ _ ⟨_, _, _, _, _, _, _, _, _, _, _, _, _, _, _, _, _, _, _, _, _, _, _, _, _, _, _, _, _, _, _, rfl, iv_I_N (by omega) (by omega) I⟩
theorem iu_close (v : Int32) (hN : N + 2 < 2 ^ 31) (I : iv_U N u) (H : ∀ r u', iv_U (N + 2) u' → post3 r u') : wpX_close post3 u v := by
  obtain ⟨C, T, F, K, rc, st, rs, ti, ni, cr, hc, nk, ms, ei, us, dn, sa, fi, lo, hi, wa, ic, se, lc, rm, w, q, ih, vd, ro, no, rfl, I⟩ := I
  by_cases c0 : v = 0
  · subst c0
    exact oq_close pp_0 (by decide) hN I (fun r C1 T1 F1 K1 rc1 st1 rs1 ti1 ni1 cr1 hc1 nk1 ms1 ei1 us1 dn1 sa1 fi1 lo1 hi1 wa1 ic1 se1 lc1 rm1 w1 q1 ih1 vd1 ro1 no1 I1 => H r _ ⟨_, _, _, _, _, _, _, _, _, _, _, _, _, _, _, _, _, _, _, _, _, _, _, _, _, _, _, _, _, _, _, rfl, I1⟩)
  by_cases c1 : v = 1
  · subst c1
    exact oq_close pp_1 (by decide) hN (iv_I_s I) (fun r C1 T1 F1 K1 rc1 st1 rs1 ti1 ni1 cr1 hc1 nk1 ms1 ei1 us1 dn1 sa1 fi1 lo1 hi1 wa1 ic1 se1 lc1 rm1 w1 q1 ih1 vd1 ro1 no1 I1 => H r _ ⟨_, _, _, _, _, _, _, _, _, _, _, _, _, _, _, _, _, _, _, _, _, _, _, _, _, _, _, _, _, _, _, rfl, iv_I_s I1⟩)
  unfold wpX_close
  refine xa_end0 c0 c1 (br_t rfl ?_)
  exact H _ _ ⟨_, _, _, _, _, _, _, _, _, _, _, _, _, _, _, _, _, _, _, _, _, _, _, _, _, _, _, _, _, _, _, rfl, iv_I_N (by omega) (by omega) I⟩
theorem iu_up (v : Int32) (hN : N + 2 < 2 ^ 31) (I : iv_U N u) (H : ∀ r u', iv_U (N + 2) u' → post3 r u') : wpX_up post3 u v := by
  obtain ⟨C, T, F, K, rc, st, rs, ti, ni, cr, hc, nk, ms, ei, us, dn, sa, fi, lo, hi, wa, ic, se, lc, rm, w, q, ih, vd, ro, no, rfl, I⟩ := I
  by_cases c0 : v = 0
  · subst c0
    exact oq_up pp_0 (by decide) hN I (fun r C1 T1 F1 K1 rc1 st1 rs1 ti1 ni1 cr1 hc1 nk1 ms1 ei1 us1 dn1 sa1 fi1 lo1 hi1 wa1 ic1 se1 lc1 rm1 w1 q1 ih1 vd1 ro1 no1 I1 => H r _ ⟨_, _, _, _, _, _, _, _, _, _, _, _, _, _, _, _, _, _, _, _, _, _, _, _, _, _, _, _, _, _, _, rfl, I1⟩)
  by_cases c1 : v = 1
  · subst c1
    exact oq_up pp_1 (by decide) hN (iv_I_s I) (fun r C1 T1 F1 K1 rc1 st1 rs1 ti1 ni1 cr1 hc1 nk1 ms1 ei1 us1 dn1 sa1 fi1 lo1 hi1 wa1 ic1 se1 lc1 rm1 w1 q1 ih1 vd1 ro1 no1 I1 => H r _ ⟨_, _, _, _, _, _, _, _, _, _, _, _, _, _, _, _, _, _, _, _, _, _, _, _, _, _, _, _, _, _, _, rfl, iv_I_s I1⟩)
  unfold wpX_up
  refine xa_end0 c0 c1 (br_t rfl ?_)
  exact H _ _ ⟨_, _, _, _, _, _, _, _, _, _, _, _, _, _, _, _, _, _, _, _, _, _, _, _, _, _, _, _, _, _, _, rfl, iv_I_N (by omega) (by omega) I⟩
theorem iu_down (v : Int32) (hN : N + 2 < 2 ^ 31) (I : iv_U N u) (H : ∀ r u', iv_U (N + 2) u' → post3 r u') : wpX_down post3 u v := by
  obtain ⟨C, T, F, K, rc, st, rs, ti, ni, cr, hc, nk, ms, ei, us, dn, sa, fi, lo, hi, wa, ic, se, lc, rm, w, q, ih, vd, ro, no, rfl, I⟩ := I
  by_cases c0 : v = 0
  · subst c0
    exact oq_down pp_0 (by decide) hN I (fun r C1 T1 F1 K1 rc1 st1 rs1 ti1 ni1 cr1 hc1 nk1 ms1 ei1 us1 dn1 sa1 fi1 lo1 hi1 wa1 ic1 se1 lc1 rm1 w1 q1 ih1 vd1 ro1 no1 I1 => H r _ ⟨_, _, _, _, _, _, _, _, _, _, _, _, _, _, _, _, _, _, _, _, _, _, _, _, _, _, _, _, _, _, _, rfl, I1⟩)
  by_cases c1 : v = 1
  · subst c1
    exact oq_down pp_1 (by decide) hN (iv_I_s I) (fun r C1 T1 F1 K1 rc1 st1 rs1 ti1 ni1 cr1 hc1 nk1 ms1 ei1 us1 dn1 sa1 fi1 lo1 hi1 wa1 ic1 se1 lc1 rm1 w1 q1 ih1 vd1 ro1 no1 I1 => H r _ ⟨_, _, _, _, _, _, _, _, _, _, _, _, _, _, _, _, _, _, _, _, _, _, _, _, _, _, _, _, _, _, _, rfl, iv_I_s I1⟩)
  unfold wpX_down
  refine xa_end0 c0 c1 (br_t rfl ?_)
  exact H _ _ ⟨_, _, _, _, _, _, _, _, _, _, _, _, _, _, _, _, _, _, _, _, _, _, _, _, _, _, _, _, _, _, _, rfl, iv_I_N (by omega) (by omega) I⟩
theorem iu_drop (v : Int32) (hN : N + 2 < 2 ^ 31) (I : iv_U N u) (H : ∀ r u', iv_U (N + 2) u' → post3 r u') : wpX_drop post3 u v := by
  obtain ⟨C, T, F, K, rc, st, rs, ti, ni, cr, hc, nk, ms, ei, us, dn, sa, fi, lo, hi, wa, ic, se, lc, rm, w, q, ih, vd, ro, no, rfl, I⟩ := I
  by_cases c0 : v = 0
  · subst c0
    exact oq_drop pp_0 (by decide) hN I (fun r C1 T1 F1 K1 rc1 st1 rs1 ti1 ni1 cr1 hc1 nk1 ms1 ei1 us1 dn1 sa1 fi1 lo1 hi1 wa1 ic1 se1 lc1 rm1 w1 q1 ih1 vd1 ro1 no1 I1 => H r _ ⟨_, _, _, _, _, _, _, _, _, _, _, _, _, _, _, _, _, _, _, _, _, _, _, _, _, _, _, _, _, _, _, rfl, I1⟩)
  by_cases c1 : v = 1
  · subst c1
    exact oq_drop pp_1 (by decide) hN (iv_I_s I) (fun r C1 T1 F1 K1 rc1 st1 rs1 ti1 ni1 cr1 hc1 nk1 ms1 ei1 us1 dn1 sa1 fi1 lo1 hi1 wa1 ic1 se1 lc1 rm1 w1 q1 ih1 vd1 ro1 no1 I1 => H r _ ⟨_, _, _, _, _, _, _, _, _, _, _, _, _, _, _, _, _, _, _, _, _, _, _, _, _, _, _, _, _, _, _, rfl, iv_I_s I1⟩)
  unfold wpX_drop
  refine xa_hasE c0 c1 (br_t rfl ?_)
  exact H _ _ ⟨_, _, _, _, _, _, _, _, _, _, _, _, _, _, _, _, _, _, _, _, _, _, _, _, _, _, _, _, _, _, _, rfl, iv_I_N (by omega) (by omega) I⟩
theorem iu_rotate (v : Int32) (hN : N + 2 < 2 ^ 31) (I : iv_U N u) (H : ∀ r u', iv_U (N + 2) u' → post3 r u') : wpX_rotate post3 u v := by
  obtain ⟨C, T, F, K, rc, st, rs, ti, ni, cr, hc, nk, ms, ei, us, dn, sa, fi, lo, hi, wa, ic, se, lc, rm, w, q, ih, vd, ro, no, rfl, I⟩ := I
  by_cases c0 : v = 0
  · subst c0
    exact oq_rotate pp_0 (by decide) hN I (fun r C1 T1 F1 K1 rc1 st1 rs1 ti1 ni1 cr1 hc1 nk1 ms1 ei1 us1 dn1 sa1 fi1 lo1 hi1 wa1 ic1 se1 lc1 rm1 w1 q1 ih1 vd1 ro1 no1 I1 => H r _ ⟨_, _, _, _, _, _, _, _, _, _, _, _, _, _, _, _, _, _, _, _, _, _, _, _, _, _, _, _, _, _, _, rfl, I1⟩)
  by_cases c1 : v = 1
  · subst c1
    exact oq_rotate pp_1 (by decide) hN (iv_I_s I) (fun r C1 T1 F1 K1 rc1 st1 rs1 ti1 ni1 cr1 hc1 nk1 ms1 ei1 us1 dn1 sa1 fi1 lo1 hi1 wa1 ic1 se1 lc1 rm1 w1 q1 ih1 vd1 ro1 no1 I1 => H r _ ⟨_, _, _, _, _, _, _, _, _, _, _, _, _, _, _, _, _, _, _, _, _, _, _, _, _, _, _, _, _, _, _, rfl, iv_I_s I1⟩)
  unfold wpX_rotate
  refine xa_hasE c0 c1 (br_t rfl ?_)
  exact H _ _ ⟨_, _, _, _, _, _, _, _, _, _, _, _, _, _, _, _, _, _, _, _, _, _, _, _, _, _, _, _, _, _, _, rfl, iv_I_N (by omega) (by omega) I⟩
theorem iu_deliver (v : Int32) (hN : N + 2 < 2 ^ 31) (I : iv_U N u) (H : ∀ r u', iv_U (N + 2) u' → post3 r u') : wpX_deliver post3 u v := by
  obtain ⟨C, T, F, K, rc, st, rs, ti, ni, cr, hc, nk, ms, ei, us, dn, sa, fi, lo, hi, wa, ic, se, lc, rm, w, q, ih, vd, ro, no, rfl, I⟩ := I
  by_cases c0 : v = 0
  · subst c0
    exact oq_deliver pp_0 pp_1 (by decide) (by decide) hN I (fun r C1 T1 F1 K1 rc1 st1 rs1 ti1 ni1 cr1 hc1 nk1 ms1 ei1 us1 dn1 sa1 fi1 lo1 hi1 wa1 ic1 se1 lc1 rm1 w1 q1 ih1 vd1 ro1 no1 I1 => H r _ ⟨_, _, _, _, _, _, _, _, _, _, _, _, _, _, _, _, _, _, _, _, _, _, _, _, _, _, _, _, _, _, _, rfl, I1⟩)
  by_cases c1 : v = 1
  · subst c1
    exact oq_deliver pp_1 pp_0 (by decide) (by decide) hN (iv_I_s I) (fun r C1 T1 F1 K1 rc1 st1 rs1 ti1 ni1 cr1 hc1 nk1 ms1 ei1 us1 dn1 sa1 fi1 lo1 hi1 wa1 ic1 se1 lc1 rm1 w1 q1 ih1 vd1 ro1 no1 I1 => H r _ ⟨_, _, _, _, _, _, _, _, _, _, _, _, _, _, _, _, _, _, _, _, _, _, _, _, _, _, _, _, _, _, _, rfl, iv_I_s I1⟩)
  unfold wpX_deliver
  refine xa_hasE c0 c1 (br_t rfl ?_)
  exact H _ _ ⟨_, _, _, _, _, _, _, _, _, _, _, _, _, _, _, _, _, _, _, _, _, _, _, _, _, _, _, _, _, _, _, rfl, iv_I_N (by omega) (by omega) I⟩
theorem iu_duplicate (v : Int32) (hN : N + 2 < 2 ^ 31) (I : iv_U N u) (H : ∀ r u', iv_U (N + 2) u' → post3 r u') : wpX_duplicate post3 u v := by
  obtain ⟨C, T, F, K, rc, st, rs, ti, ni, cr, hc, nk, ms, ei, us, dn, sa, fi, lo, hi, wa, ic, se, lc, rm, w, q, ih, vd, ro, no, rfl, I⟩ := I
  by_cases c0 : v = 0
  · subst c0
    exact oq_duplicate pp_0 (by decide) hN I (fun r C1 T1 F1 K1 rc1 st1 rs1 ti1 ni1 cr1 hc1 nk1 ms1 ei1 us1 dn1 sa1 fi1 lo1 hi1 wa1 ic1 se1 lc1 rm1 w1 q1 ih1 vd1 ro1 no1 I1 => H r _ ⟨_, _, _, _, _, _, _, _, _, _, _, _, _, _, _, _, _, _, _, _, _, _, _, _, _, _, _, _, _, _, _, rfl, I1⟩)
  by_cases c1 : v = 1
  · subst c1
    exact oq_duplicate pp_1 (by decide) hN (iv_I_s I) (fun r C1 T1 F1 K1 rc1 st1 rs1 ti1 ni1 cr1 hc1 nk1 ms1 ei1 us1 dn1 sa1 fi1 lo1 hi1 wa1 ic1 se1 lc1 rm1 w1 q1 ih1 vd1 ro1 no1 I1 => H r _ ⟨_, _, _, _, _, _, _, _, _, _, _, _, _, _, _, _, _, _, _, _, _, _, _, _, _, _, _, _, _, _, _, rfl, iv_I_s I1⟩)
  unfold wpX_duplicate
  refine xa_hasE c0 c1 (br_t rfl ?_)
  exact H _ _ ⟨_, _, _, _, _, _, _, _, _, _, _, _, _, _, _, _, _, _, _, _, _, _, _, _, _, _, _, _, _, _, _, rfl, iv_I_N (by omega) (by omega) I⟩
theorem iu_echo (v : Int32) (hN : N + 2 < 2 ^ 31) (I : iv_U N u) (H : ∀ r u', iv_U (N + 2) u' → post3 r u') : wpX_echo post3 u v := by
  obtain ⟨C, T, F, K, rc, st, rs, ti, ni, cr, hc, nk, ms, ei, us, dn, sa, fi, lo, hi, wa, ic, se, lc, rm, w, q, ih, vd, ro, no, rfl, I⟩ := I
  by_cases c0 : v = 0
  · subst c0
    exact oq_echo pp_0 (by decide) hN I (fun r C1 T1 F1 K1 rc1 st1 rs1 ti1 ni1 cr1 hc1 nk1 ms1 ei1 us1 dn1 sa1 fi1 lo1 hi1 wa1 ic1 se1 lc1 rm1 w1 q1 ih1 vd1 ro1 no1 I1 => H r _ ⟨_, _, _, _, _, _, _, _, _, _, _, _, _, _, _, _, _, _, _, _, _, _, _, _, _, _, _, _, _, _, _, rfl, I1⟩)
  by_cases c1 : v = 1
  · subst c1
    exact oq_echo pp_1 (by decide) hN (iv_I_s I) (fun r C1 T1 F1 K1 rc1 st1 rs1 ti1 ni1 cr1 hc1 nk1 ms1 ei1 us1 dn1 sa1 fi1 lo1 hi1 wa1 ic1 se1 lc1 rm1 w1 q1 ih1 vd1 ro1 no1 I1 => H r _ ⟨_, _, _, _, _, _, _, _, _, _, _, _, _, _, _, _, _, _, _, _, _, _, _, _, _, _, _, _, _, _, _, rfl, iv_I_s I1⟩)
  unfold wpX_echo
  refine xa_end0 c0 c1 (br_t rfl ?_)
  exact H _ _ ⟨_, _, _, _, _, _, _, _, _, _, _, _, _, _, _, _, _, _, _, _, _, _, _, _, _, _, _, _, _, _, _, rfl, iv_I_N (by omega) (by omega) I⟩
theorem iu_inject (v : Int32) (c : Int32) (d : Int32) (hN : N + 2 < 2 ^ 31) (I : iv_U N u) (H : ∀ r u', iv_U (N + 2) u' → post3 r u') : wpX_inject post3 u v c d := by
  obtain ⟨C, T, F, K, rc, st, rs, ti, ni, cr, hc, nk, ms, ei, us, dn, sa, fi, lo, hi, wa, ic, se, lc, rm, w, q, ih, vd, ro, no, rfl, I⟩ := I
  by_cases c0 : v = 0
  · subst c0
    exact oq_inject pp_0 (by decide) hN I c d (fun r C1 T1 F1 K1 rc1 st1 rs1 ti1 ni1 cr1 hc1 nk1 ms1 ei1 us1 dn1 sa1 fi1 lo1 hi1 wa1 ic1 se1 lc1 rm1 w1 q1 ih1 vd1 ro1 no1 I1 => H r _ ⟨_, _, _, _, _, _, _, _, _, _, _, _, _, _, _, _, _, _, _, _, _, _, _, _, _, _, _, _, _, _, _, rfl, I1⟩)
  by_cases c1 : v = 1
  · subst c1
    exact oq_inject pp_1 (by decide) hN (iv_I_s I) c d (fun r C1 T1 F1 K1 rc1 st1 rs1 ti1 ni1 cr1 hc1 nk1 ms1 ei1 us1 dn1 sa1 fi1 lo1 hi1 wa1 ic1 se1 lc1 rm1 w1 q1 ih1 vd1 ro1 no1 I1 => H r _ ⟨_, _, _, _, _, _, _, _, _, _, _, _, _, _, _, _, _, _, _, _, _, _, _, _, _, _, _, _, _, _, _, rfl, iv_I_s I1⟩)
  unfold wpX_inject
  refine xa_end0 c0 c1 (br_t rfl ?_)
  exact H _ _ ⟨_, _, _, _, _, _, _, _, _, _, _, _, _, _, _, _, _, _, _, _, _, _, _, _, _, _, _, _, _, _, _, rfl, iv_I_N (by omega) (by omega) I⟩
theorem iu_setRange (v : Int32) (o : Int32) (a : Int32) (b : Int32) (hN : N + 2 < 2 ^ 31) (I : iv_U N u) (H : ∀ r u', iv_U (N + 2) u' → post3 r u') : wpX_setRange post3 u v o a b := by
  obtain ⟨C, T, F, K, rc, st, rs, ti, ni, cr, hc, nk, ms, ei, us, dn, sa, fi, lo, hi, wa, ic, se, lc, rm, w, q, ih, vd, ro, no, rfl, I⟩ := I
  by_cases c0 : v = 0
  · subst c0
    exact oq_setRange pp_0 (by decide) hN I o a b (fun r C1 T1 F1 K1 rc1 st1 rs1 ti1 ni1 cr1 hc1 nk1 ms1 ei1 us1 dn1 sa1 fi1 lo1 hi1 wa1 ic1 se1 lc1 rm1 w1 q1 ih1 vd1 ro1 no1 I1 => H r _ ⟨_, _, _, _, _, _, _, _, _, _, _, _, _, _, _, _, _, _, _, _, _, _, _, _, _, _, _, _, _, _, _, rfl, I1⟩)
  by_cases c1 : v = 1
  · subst c1
    exact oq_setRange pp_1 (by decide) hN (iv_I_s I) o a b (fun r C1 T1 F1 K1 rc1 st1 rs1 ti1 ni1 cr1 hc1 nk1 ms1 ei1 us1 dn1 sa1 fi1 lo1 hi1 wa1 ic1 se1 lc1 rm1 w1 q1 ih1 vd1 ro1 no1 I1 => H r _ ⟨_, _, _, _, _, _, _, _, _, _, _, _, _, _, _, _, _, _, _, _, _, _, _, _, _, _, _, _, _, _, _, rfl, iv_I_s I1⟩)
  unfold wpX_setRange
  refine xa_end0 c0 c1 (br_t rfl ?_)
  exact H _ _ ⟨_, _, _, _, _, _, _, _, _, _, _, _, _, _, _, _, _, _, _, _, _, _, _, _, _, _, _, _, _, _, _, rfl, iv_I_N (by omega) (by omega) I⟩
theorem iu_tick (hN : N + 2 < 2 ^ 31) (I : iv_U N u) (H : ∀ u', iv_U (N + 2) u' → post u') : wpX_tick post u := by
  obtain ⟨C, T, F, K, rc, st, rs, ti, ni, cr, hc, nk, ms, ei, us, dn, sa, fi, lo, hi, wa, ic, se, lc, rm, w, q, ih, vd, ro, no, rfl, I⟩ := I
  exact oq_tick hN I (fun C1 T1 F1 K1 rc1 st1 rs1 ti1 ni1 cr1 hc1 nk1 ms1 ei1 us1 dn1 sa1 fi1 lo1 hi1 wa1 ic1 se1 lc1 rm1 w1 q1 ih1 vd1 ro1 no1 I1 => H _ ⟨_, _, _, _, _, _, _, _, _, _, _, _, _, _, _, _, _, _, _, _, _, _, _, _, _, _, _, _, _, _, _, rfl, I1⟩)
theorem iu_setR (v : Int32) (hN : N + 2 < 2 ^ 31) (I : iv_U N u) (H : ∀ u', iv_U (N + 2) u' → post u') : wpL_setR post u v := by
  have I0 := I
  obtain ⟨C, T, F, K, rc, st, rs, ti, ni, cr, hc, nk, ms, ei, us, dn, sa, fi, lo, hi, wa, ic, se, lc, rm, w, q, ih, vd, ro, no, rfl, _⟩ := I
  unfold wpL_setR
  refine nm_e (nm_e ⟨by decide, nm_e ⟨by decide, nm_e ?_⟩⟩)
  refine iu_setRange _ _ _ _ hN I0 (fun r u' I' => ?_)
  obtain ⟨C1, T1, F1, K1, rc1, st1, rs1, ti1, ni1, cr1, hc1, nk1, ms1, ei1, us1, dn1, sa1, fi1, lo1, hi1, wa1, ic1, se1, lc1, rm1, w1, q1, ih1, vd1, ro1, no1, rfl, I1⟩ := I'
  exact H _ ⟨_, _, _, _, _, _, _, _, _, _, _, _, _, _, _, _, _, _, _, _, _, _, _, _, _, _, _, _, _, _, _, rfl, I1⟩
theorem xp_0 (HP : pn_P P p) (h : post1 (st p)) : wpX_peerInfo post1 (C, T, F, K, rc, st, rs, ti, ni, cr, hc, nk, ms, ei, us, dn, sa, fi, lo, hi, wa, ic, se, lc, rm, w, q, ih, vd, ro, no) P 0 := by
  unfold wpX_peerInfo
  refine xa_end1 HP (br_f (by decide) (br_f (by decide) (br_f (by decide) (br_t (by decide) ⟨pp_v HP, ?_⟩))))
  rw [pp_n HP]
  exact h
theorem xp_4 (HP : pn_P P p) (h : post1 (cr p)) : wpX_peerInfo post1 (C, T, F, K, rc, st, rs, ti, ni, cr, hc, nk, ms, ei, us, dn, sa, fi, lo, hi, wa, ic, se, lc, rm, w, q, ih, vd, ro, no) P 4 := by
  unfold wpX_peerInfo
  refine xa_end1 HP (br_f (by decide) (br_f (by decide) (br_f (by decide) (br_f (by decide) (br_f (by decide) (br_f (by decide) (br_f (by decide) (br_t (by decide) ⟨pp_v HP, ?_⟩))))))))
  rw [pp_n HP]
  exact h
theorem xp_5 (HP : pn_P P p) (h : post1 (hc p)) : wpX_peerInfo post1 (C, T, F, K, rc, st, rs, ti, ni, cr, hc, nk, ms, ei, us, dn, sa, fi, lo, hi, wa, ic, se, lc, rm, w, q, ih, vd, ro, no) P 5 := by
  unfold wpX_peerInfo
  refine xa_end1 HP (br_f (by decide) (br_f (by decide) (br_f (by decide) (br_f (by decide) (br_f (by decide) (br_f (by decide) (br_f (by decide) (br_f (by decide) (br_t (by decide) ⟨pp_v HP, ?_⟩)))))))))
  rw [pp_n HP]
  exact h
theorem xo_0 (HP : pn_P P p) {k : Nat} (hk : k < 4) (h : post1 (lo (p * 4 + k))) : wpX_optionInfo post1 (C, T, F, K, rc, st, rs, ti, ni, cr, hc, nk, ms, ei, us, dn, sa, fi, lo, hi, wa, ic, se, lc, rm, w, q, ih, vd, ro, no) P (nI k) 0 := by
  unfold wpX_optionInfo
  refine xa_end1 HP (br_f (by decide) ?_)
  refine (show wpX_isOption _ () (nI k) from br_f (nI_nlt (b := 0) (by omega) (by omega)) (br_f (pp_g4 hk) (br_f (by decide) ?_)))
  intro x4 e4
  have ex : x4.toNatClampNeg = p * 4 + k := by rw [e4, pp_4 HP hk]
  have vx : vp_in x4 8 := by rw [e4]; exact pp_v4 HP hk
  refine br_f (by decide) (br_f (by decide) (br_t (by decide) ⟨vx, ?_⟩))
  rw [ex]
  exact h
theorem xo_1 (HP : pn_P P p) {k : Nat} (hk : k < 4) (h : post1 (hi (p * 4 + k))) : wpX_optionInfo post1 (C, T, F, K, rc, st, rs, ti, ni, cr, hc, nk, ms, ei, us, dn, sa, fi, lo, hi, wa, ic, se, lc, rm, w, q, ih, vd, ro, no) P (nI k) 1 := by
  unfold wpX_optionInfo
  refine xa_end1 HP (br_f (by decide) ?_)
  refine (show wpX_isOption _ () (nI k) from br_f (nI_nlt (b := 0) (by omega) (by omega)) (br_f (pp_g4 hk) (br_f (by decide) ?_)))
  intro x4 e4
  have ex : x4.toNatClampNeg = p * 4 + k := by rw [e4, pp_4 HP hk]
  have vx : vp_in x4 8 := by rw [e4]; exact pp_v4 HP hk
  refine br_f (by decide) (br_f (by decide) (br_f (by decide) (br_t (by decide) ⟨vx, ?_⟩)))
  rw [ex]
  exact h
theorem xo_4 (HP : pn_P P p) {k : Nat} (hk : k < 4) (h : post1 (se (p * 4 + k))) : wpX_optionInfo post1 (C, T, F, K, rc, st, rs, ti, ni, cr, hc, nk, ms, ei, us, dn, sa, fi, lo, hi, wa, ic, se, lc, rm, w, q, ih, vd, ro, no) P (nI k) 4 := by
  unfold wpX_optionInfo
  refine xa_end1 HP (br_f (by decide) ?_)
  refine (show wpX_isOption _ () (nI k) from br_f (nI_nlt (b := 0) (by omega) (by omega)) (br_f (pp_g4 hk) (br_f (by decide) ?_)))
  intro x4 e4
  have ex : x4.toNatClampNeg = p * 4 + k := by rw [e4, pp_4 HP hk]
  have vx : vp_in x4 8 := by rw [e4]; exact pp_v4 HP hk
  refine br_f (by decide) (br_f (by decide) (br_f (by decide) (br_f (by decide) (br_f (by decide) (br_f (by decide) (br_t (by decide) ⟨vx, ?_⟩))))))
  rw [ex]
  exact h
theorem xo_5 (HP : pn_P P p) {k : Nat} (hk : k < 4) (h : post1 (lc (p * 4 + k))) : wpX_optionInfo post1 (C, T, F, K, rc, st, rs, ti, ni, cr, hc, nk, ms, ei, us, dn, sa, fi, lo, hi, wa, ic, se, lc, rm, w, q, ih, vd, ro, no) P (nI k) 5 := by
  unfold wpX_optionInfo
  refine xa_end1 HP (br_f (by decide) ?_)
  refine (show wpX_isOption _ () (nI k) from br_f (nI_nlt (b := 0) (by omega) (by omega)) (br_f (pp_g4 hk) (br_f (by decide) ?_)))
  intro x4 e4
  have ex : x4.toNatClampNeg = p * 4 + k := by rw [e4, pp_4 HP hk]
  have vx : vp_in x4 8 := by rw [e4]; exact pp_v4 HP hk
  refine br_f (by decide) (br_f (by decide) (br_f (by decide) (br_f (by decide) (br_f (by decide) (br_f (by decide) (br_f (by decide) (br_t (by decide) ⟨vx, ?_⟩)))))))
  rw [ex]
  exact h
theorem xo_6 (HP : pn_P P p) {k : Nat} (hk : k < 4) (h : post1 (rm (p * 4 + k))) : wpX_optionInfo post1 (C, T, F, K, rc, st, rs, ti, ni, cr, hc, nk, ms, ei, us, dn, sa, fi, lo, hi, wa, ic, se, lc, rm, w, q, ih, vd, ro, no) P (nI k) 6 := by
  unfold wpX_optionInfo
  refine xa_end1 HP (br_f (by decide) ?_)
  refine (show wpX_isOption _ () (nI k) from br_f (nI_nlt (b := 0) (by omega) (by omega)) (br_f (pp_g4 hk) (br_f (by decide) ?_)))
  intro x4 e4
  have ex : x4.toNatClampNeg = p * 4 + k := by rw [e4, pp_4 HP hk]
  have vx : vp_in x4 8 := by rw [e4]; exact pp_v4 HP hk
  refine br_f (by decide) (br_f (by decide) (br_f (by decide) (br_f (by decide) (br_f (by decide) (br_f (by decide) (br_f (by decide) (br_f (by decide) (br_t (by decide) ⟨vx, ?_⟩))))))))
  rw [ex]
  exact h
theorem xo_in (HP : pn_P P p) {k : Nat} {v : Int32} (hk : k < 4) (h1 : lo (p * 4 + k) ≤ v) (h2 : v ≤ hi (p * 4 + k)) (h : post1 1) : wpL_inRange post1 (C, T, F, K, rc, st, rs, ti, ni, cr, hc, nk, ms, ei, us, dn, sa, fi, lo, hi, wa, ic, se, lc, rm, w, q, ih, vd, ro, no) P (nI k) v := by
  unfold wpL_inRange
  exact xo_0 HP hk (br_f (Int32.not_lt.mpr h1) (xo_1 HP hk (br_f (Int32.not_lt.mpr h2) h)))
theorem ho_65 {J : Int32 → Prop} {R : Int32} {e n k : Nat} (HP : pn_P P p) (HR : pn_P R e) (D : iv_D cr hc se lc rm p e) (Rp : iv_R lo hi se p) (Re : iv_R lo hi rm e) (hk : k < 4) (h : wL_holds_65 post1 J P R C T F K rc st rs ti ni cr hc nk ms ei us dn sa fi lo hi wa ic se lc rm w q ih vd ro no n (nI (k + 1))) : wL_holds_65 post1 J P R C T F K rc st rs ti ni cr hc nk ms ei us dn sa fi lo hi wa ic se lc rm w q ih vd ro no (n + 1) (nI k) := by
  have d := D.2 k hk
  have e1 : lc (p * 4 + k) = rm (e * 4 + k) := d.1.trans d.2.symm
  refine br_f (pp_g4 hk) (xo_5 HP hk (xo_4 HP hk (br_t d.1 (xo_6 HR hk (br_t e1 ?_)))))
  by_cases c : lc (p * 4 + k) = -1
  · exact br_t c (nm_r (nI_1 k) h)
  · have a := Rp k hk
    have b := Re k hk
    rw [← d.1] at a
    rw [← e1] at b
    rcases a with a | a
    · exact absurd a c
    · rcases b with b | b
      · exact absurd b c
      · exact br_f c (xo_in HP hk a.1 a.2 (br_f (by decide) (xo_in HR hk b.1 b.2 (br_f (by decide) (nm_r (nI_1 k) h)))))
theorem ho_28 {R Nx : Int32} {e n : Nat} (HP : pn_P P p) (HR : pn_P R e) (eR : 1 - P = R) (eN : P + 1 = Nx) (hc0 : 0 < cr p) (D : iv_D cr hc se lc rm p e) (Rp : iv_R lo hi se p) (Re : iv_R lo hi rm e) (h : wL_holds_28 post1 C T F K rc st rs ti ni cr hc nk ms ei us dn sa fi lo hi wa ic se lc rm w q ih vd ro no n Nx) : wL_holds_28 post1 C T F K rc st rs ti ni cr hc nk ms ei us dn sa fi lo hi wa ic se lc rm w q ih vd ro no (n + 1) P := by
  have n0 : ¬ cr p = 0 := by
    intro z
    rw [z] at hc0
    exact absurd hc0 (by decide)
  refine br_f (pp_n2 HP) (nm_r eR (xp_4 HP (br_f n0 (xp_5 HR (br_t D.1 ⟨5, ?_⟩)))))
  exact ho_65 HP HR D Rp Re (k := 0) (by decide) (ho_65 HP HR D Rp Re (k := 1) (by decide) (ho_65 HP HR D Rp Re (k := 2) (by decide) (ho_65 HP HR D Rp Re (k := 3) (by decide) (br_t pp_44 (nm_r eN h)))))
theorem ho_all (I : iv_U N u) (h : post1 1) : wpL_holds post1 u := by
  obtain ⟨C, T, F, K, rc, st, rs, ti, ni, cr, hc, nk, ms, ei, us, dn, sa, fi, lo, hi, wa, ic, se, lc, rm, w, q, ih, vd, ro, no, rfl, I⟩ := I
  obtain ⟨VO, VQ, VN, KK, s, t, hs9, ht9, es, et, Fp, Fe⟩ := I
  unfold wpL_holds
  refine xp_0 pp_0 (br_c (fun a => xp_0 pp_1 (br_c (fun b => ?_) (fun _ => h))) (fun _ => h))
  have s9 : s = 9 := by
    rw [es] at a
    exact (nI_eq (b := 9) (by omega) (by decide)).mp a
  have t9 : t = 9 := by
    rw [et] at b
    exact (nI_eq (b := 9) (by omega) (by decide)).mp b
  subst s9 t9
  refine ⟨3, ho_28 pp_0 pp_1 (by decide) (Nx := 1) (by decide) (Fp.2.1 (by decide)) (Fp.2.2.1 (by decide)) (Fp.1 (by decide)).2 (Fe.2.2.2 (by decide)) ?_⟩
  exact ho_28 pp_1 pp_0 (by decide) (Nx := 2) (by decide) (Fe.2.1 (by decide)) (Fe.2.2.1 (by decide)) (Fe.1 (by decide)).2 (Fp.2.2.2 (by decide)) (br_t (by decide) h)
end MU
