section LW
variable {C T F K rc : Int32} {st rs ti ni cr hc nk ms ei us dn sa fi lo hi wa ic se lc rm w q ih vd ro no : Nat → Int32} {post : Int32 → Prop} {xs : Nat → Int32} {u0 : St0} {L N i n kc ks : Nat}
theorem lq_cell (hi : i < 2 ^ 31) (hL : L < 2 ^ 31) (h : ∀ r, post r) : wpL_cell post L xs u0 (nI i) := by
  refine br_c (fun _ => h _) (fun c => ⟨vp_in_nI ?_ hL, h _⟩)
  refine Nat.lt_of_not_le (fun c2 => c ?_)
  exact nI_le c2 hi
theorem lq_384 {J : Int32 → Int32 → Int32 → Int32 → Int32 → Int32 → (Nat → Int32) → (Nat → Int32) → (Nat → Int32) → (Nat → Int32) → (Nat → Int32) → (Nat → Int32) → (Nat → Int32) → (Nat → Int32) → (Nat → Int32) → (Nat → Int32) → (Nat → Int32) → (Nat → Int32) → (Nat → Int32) → (Nat → Int32) → (Nat → Int32) → (Nat → Int32) → (Nat → Int32) → (Nat → Int32) → (Nat → Int32) → (Nat → Int32) → (Nat → Int32) → (Nat → Int32) → (Nat → Int32) → (Nat → Int32) → (Nat → Int32) → (Nat → Int32) → Prop} (I : iv_I N 0 1 st ni cr hc lo hi wa ic se lc rm w q no) (h : J (nI (i + 1)) C T F K rc st rs ti ni cr hc nk ms ei us dn sa fi lo hi wa ic se lc rm w q ih vd ro no) : wL_law_384 post L xs J (nI i) kc ks C T F K rc st rs ti ni cr hc nk ms ei us dn sa fi lo hi wa ic se lc rm w q ih vd ro no := by
  unfold wL_law_384
  exact ho_all ⟨_, _, _, _, _, _, _, _, _, _, _, _, _, _, _, _, _, _, _, _, _, _, _, _, _, _, _, _, _, _, _, rfl, I⟩ (br_f (by decide) (nm_r (nI_1 i) h))
theorem lq_136 (hL : L ≤ 260) (hp : post 1) : ∀ d i N : Nat, L ≤ i + d → i ≤ 300 → N + 2 * d < 100000 → ∀ (C T F K rc : Int32) (st rs ti ni cr hc nk ms ei us dn sa fi lo hi wa ic se lc rm w q ih vd ro no : Nat → Int32), iv_I N 0 1 st ni cr hc lo hi wa ic se lc rm w q no → wL_law_136 post L xs kc ks (d + 1) (nI i) C T F K rc st rs ti ni cr hc nk ms ei us dn sa fi lo hi wa ic se lc rm w q ih vd ro no := by
  intro d
  induction d with
  | zero =>
    intro i N h1 h2 h3 C T F K rc st rs ti ni cr hc nk ms ei us dn sa fi lo hi wa ic se lc rm w q ih vd ro no I
    exact br_t (nI_le (by omega) (by omega)) hp
  | succ d IH0 =>
    intro i N h1 h2 h3 C T F K rc st rs ti ni cr hc nk ms ei us dn sa fi lo hi wa ic se lc rm w q ih vd ro no I
    have IH := IH0
    by_cases c : L ≤ i
    · exact br_t (nI_le c (by omega)) hp
    have IU : iv_U N (C, T, F, K, rc, st, rs, ti, ni, cr, hc, nk, ms, ei, us, dn, sa, fi, lo, hi, wa, ic, se, lc, rm, w, q, ih, vd, ro, no) := ⟨_, _, _, _, _, _, _, _, _, _, _, _, _, _, _, _, _, _, _, _, _, _, _, _, _, _, _, _, _, _, _, rfl, I⟩
    refine br_f (nI_ge (by omega) (by omega)) ⟨vp_in_nI (by omega) (by omega), ?_⟩
    refine nm_e (nm_e ?_)
    refine br_c (fun _ => br_c (fun _ => br_c (fun _ => ?_) (fun _ => br_c (fun _ => ?_) (fun _ => br_c (fun _ => ?_) (fun _ => br_c (fun _ => ?_) (fun _ => br_c (fun _ => ?_) (fun _ => br_c (fun _ => ?_) (fun _ => br_c (fun _ => ?_) (fun _ => br_c (fun _ => ?_) (fun _ => br_c (fun _ => ?_) (fun _ => br_c (fun _ => ?_) (fun _ => ?_))))))))))) (fun _ => ?_)) (fun _ => ?_)
    · refine iu_drop _ (by omega) IU (fun r u' I' => ?_)
      obtain ⟨C1, T1, F1, K1, rc1, st1, rs1, ti1, ni1, cr1, hc1, nk1, ms1, ei1, us1, dn1, sa1, fi1, lo1, hi1, wa1, ic1, se1, lc1, rm1, w1, q1, ih1, vd1, ro1, no1, rfl, I1⟩ := I'
      exact lq_384 I1 (IH _ _ (by omega) (by omega) (by omega) C1 T1 F1 K1 rc1 st1 rs1 ti1 ni1 cr1 hc1 nk1 ms1 ei1 us1 dn1 sa1 fi1 lo1 hi1 wa1 ic1 se1 lc1 rm1 w1 q1 ih1 vd1 ro1 no1 I1)
    · refine iu_duplicate _ (by omega) IU (fun r u' I' => ?_)
      obtain ⟨C1, T1, F1, K1, rc1, st1, rs1, ti1, ni1, cr1, hc1, nk1, ms1, ei1, us1, dn1, sa1, fi1, lo1, hi1, wa1, ic1, se1, lc1, rm1, w1, q1, ih1, vd1, ro1, no1, rfl, I1⟩ := I'
      exact lq_384 I1 (IH _ _ (by omega) (by omega) (by omega) C1 T1 F1 K1 rc1 st1 rs1 ti1 ni1 cr1 hc1 nk1 ms1 ei1 us1 dn1 sa1 fi1 lo1 hi1 wa1 ic1 se1 lc1 rm1 w1 q1 ih1 vd1 ro1 no1 I1)
    · refine iu_rotate _ (by omega) IU (fun r u' I' => ?_)
      obtain ⟨C1, T1, F1, K1, rc1, st1, rs1, ti1, ni1, cr1, hc1, nk1, ms1, ei1, us1, dn1, sa1, fi1, lo1, hi1, wa1, ic1, se1, lc1, rm1, w1, q1, ih1, vd1, ro1, no1, rfl, I1⟩ := I'
      exact lq_384 I1 (IH _ _ (by omega) (by omega) (by omega) C1 T1 F1 K1 rc1 st1 rs1 ti1 ni1 cr1 hc1 nk1 ms1 ei1 us1 dn1 sa1 fi1 lo1 hi1 wa1 ic1 se1 lc1 rm1 w1 q1 ih1 vd1 ro1 no1 I1)
    · refine iu_echo _ (by omega) IU (fun r u' I' => ?_)
      obtain ⟨C1, T1, F1, K1, rc1, st1, rs1, ti1, ni1, cr1, hc1, nk1, ms1, ei1, us1, dn1, sa1, fi1, lo1, hi1, wa1, ic1, se1, lc1, rm1, w1, q1, ih1, vd1, ro1, no1, rfl, I1⟩ := I'
      exact lq_384 I1 (IH _ _ (by omega) (by omega) (by omega) C1 T1 F1 K1 rc1 st1 rs1 ti1 ni1 cr1 hc1 nk1 ms1 ei1 us1 dn1 sa1 fi1 lo1 hi1 wa1 ic1 se1 lc1 rm1 w1 q1 ih1 vd1 ro1 no1 I1)
    · refine iu_close _ (by omega) IU (fun r u' I' => ?_)
      obtain ⟨C1, T1, F1, K1, rc1, st1, rs1, ti1, ni1, cr1, hc1, nk1, ms1, ei1, us1, dn1, sa1, fi1, lo1, hi1, wa1, ic1, se1, lc1, rm1, w1, q1, ih1, vd1, ro1, no1, rfl, I1⟩ := I'
      exact lq_384 I1 (IH _ _ (by omega) (by omega) (by omega) C1 T1 F1 K1 rc1 st1 rs1 ti1 ni1 cr1 hc1 nk1 ms1 ei1 us1 dn1 sa1 fi1 lo1 hi1 wa1 ic1 se1 lc1 rm1 w1 q1 ih1 vd1 ro1 no1 I1)
    · refine iu_open _ (by omega) IU (fun r u' I' => ?_)
      obtain ⟨C1, T1, F1, K1, rc1, st1, rs1, ti1, ni1, cr1, hc1, nk1, ms1, ei1, us1, dn1, sa1, fi1, lo1, hi1, wa1, ic1, se1, lc1, rm1, w1, q1, ih1, vd1, ro1, no1, rfl, I1⟩ := I'
      exact lq_384 I1 (IH _ _ (by omega) (by omega) (by omega) C1 T1 F1 K1 rc1 st1 rs1 ti1 ni1 cr1 hc1 nk1 ms1 ei1 us1 dn1 sa1 fi1 lo1 hi1 wa1 ic1 se1 lc1 rm1 w1 q1 ih1 vd1 ro1 no1 I1)
    · refine iu_down _ (by omega) IU (fun r u' I' => ?_)
      obtain ⟨C1, T1, F1, K1, rc1, st1, rs1, ti1, ni1, cr1, hc1, nk1, ms1, ei1, us1, dn1, sa1, fi1, lo1, hi1, wa1, ic1, se1, lc1, rm1, w1, q1, ih1, vd1, ro1, no1, rfl, I1⟩ := I'
      exact lq_384 I1 (IH _ _ (by omega) (by omega) (by omega) C1 T1 F1 K1 rc1 st1 rs1 ti1 ni1 cr1 hc1 nk1 ms1 ei1 us1 dn1 sa1 fi1 lo1 hi1 wa1 ic1 se1 lc1 rm1 w1 q1 ih1 vd1 ro1 no1 I1)
    · refine iu_up _ (by omega) IU (fun r u' I' => ?_)
      obtain ⟨C1, T1, F1, K1, rc1, st1, rs1, ti1, ni1, cr1, hc1, nk1, ms1, ei1, us1, dn1, sa1, fi1, lo1, hi1, wa1, ic1, se1, lc1, rm1, w1, q1, ih1, vd1, ro1, no1, rfl, I1⟩ := I'
      exact lq_384 I1 (IH _ _ (by omega) (by omega) (by omega) C1 T1 F1 K1 rc1 st1 rs1 ti1 ni1 cr1 hc1 nk1 ms1 ei1 us1 dn1 sa1 fi1 lo1 hi1 wa1 ic1 se1 lc1 rm1 w1 q1 ih1 vd1 ro1 no1 I1)
    · refine iu_setR _ (by omega) IU (fun u' I' => ?_)
      obtain ⟨C1, T1, F1, K1, rc1, st1, rs1, ti1, ni1, cr1, hc1, nk1, ms1, ei1, us1, dn1, sa1, fi1, lo1, hi1, wa1, ic1, se1, lc1, rm1, w1, q1, ih1, vd1, ro1, no1, rfl, I1⟩ := I'
      exact lq_384 I1 (IH _ _ (by omega) (by omega) (by omega) C1 T1 F1 K1 rc1 st1 rs1 ti1 ni1 cr1 hc1 nk1 ms1 ei1 us1 dn1 sa1 fi1 lo1 hi1 wa1 ic1 se1 lc1 rm1 w1 q1 ih1 vd1 ro1 no1 I1)
    · have inj : ∀ c0 : Int32, ∀ d0 : Int32, ∀ v0 : Int32, ∀ post3 : Int32 → St2 → Prop, (∀ r u', iv_U (N + 2) u' → post3 r u') → (¬ (10 : Int32) = 0 ∧ wpX_inject post3 (C, T, F, K, rc, st, rs, ti, ni, cr, hc, nk, ms, ei, us, dn, sa, fi, lo, hi, wa, ic, se, lc, rm, w, q, ih, vd, ro, no) v0 c0 d0) := fun c0 d0 v0 post3 h => ⟨by decide, iu_inject v0 c0 d0 (by omega) IU h⟩
      refine And.intro (by decide) (nm_e (br_c (fun _ => inj _ _ _ _ ?_) (fun _ => br_c (fun _ => inj _ _ _ _ ?_) (fun _ => br_c (fun _ => inj _ _ _ _ ?_) (fun _ => br_c (fun _ => inj _ _ _ _ ?_) (fun _ => inj _ _ _ _ ?_))))))
      all_goals
        intro r u' I'
        obtain ⟨C1, T1, F1, K1, rc1, st1, rs1, ti1, ni1, cr1, hc1, nk1, ms1, ei1, us1, dn1, sa1, fi1, lo1, hi1, wa1, ic1, se1, lc1, rm1, w1, q1, ih1, vd1, ro1, no1, rfl, I1⟩ := I'
        exact lq_384 I1 (IH _ _ (by omega) (by omega) (by omega) C1 T1 F1 K1 rc1 st1 rs1 ti1 ni1 cr1 hc1 nk1 ms1 ei1 us1 dn1 sa1 fi1 lo1 hi1 wa1 ic1 se1 lc1 rm1 w1 q1 ih1 vd1 ro1 no1 I1)
    · refine iu_tick (by omega) IU (fun u' I' => ?_)
      obtain ⟨C1, T1, F1, K1, rc1, st1, rs1, ti1, ni1, cr1, hc1, nk1, ms1, ei1, us1, dn1, sa1, fi1, lo1, hi1, wa1, ic1, se1, lc1, rm1, w1, q1, ih1, vd1, ro1, no1, rfl, I1⟩ := I'
      exact lq_384 I1 (IH _ _ (by omega) (by omega) (by omega) C1 T1 F1 K1 rc1 st1 rs1 ti1 ni1 cr1 hc1 nk1 ms1 ei1 us1 dn1 sa1 fi1 lo1 hi1 wa1 ic1 se1 lc1 rm1 w1 q1 ih1 vd1 ro1 no1 I1)
    · refine iu_tick (by omega) IU (fun u' I' => ?_)
      obtain ⟨C1, T1, F1, K1, rc1, st1, rs1, ti1, ni1, cr1, hc1, nk1, ms1, ei1, us1, dn1, sa1, fi1, lo1, hi1, wa1, ic1, se1, lc1, rm1, w1, q1, ih1, vd1, ro1, no1, rfl, I1⟩ := I'
      exact lq_384 I1 (IH _ _ (by omega) (by omega) (by omega) C1 T1 F1 K1 rc1 st1 rs1 ti1 ni1 cr1 hc1 nk1 ms1 ei1 us1 dn1 sa1 fi1 lo1 hi1 wa1 ic1 se1 lc1 rm1 w1 q1 ih1 vd1 ro1 no1 I1)
    · refine iu_deliver _ (by omega) IU (fun r u' I' => ?_)
      obtain ⟨C1, T1, F1, K1, rc1, st1, rs1, ti1, ni1, cr1, hc1, nk1, ms1, ei1, us1, dn1, sa1, fi1, lo1, hi1, wa1, ic1, se1, lc1, rm1, w1, q1, ih1, vd1, ro1, no1, rfl, I1⟩ := I'
      exact lq_384 I1 (IH _ _ (by omega) (by omega) (by omega) C1 T1 F1 K1 rc1 st1 rs1 ti1 ni1 cr1 hc1 nk1 ms1 ei1 us1 dn1 sa1 fi1 lo1 hi1 wa1 ic1 se1 lc1 rm1 w1 q1 ih1 vd1 ro1 no1 I1)
theorem lq_68s (hL : L ≤ 260) (hi6 : i < 6) (hN : N + 2 < 2 ^ 31) (I : iv_I N 0 1 st ni cr hc lo hi wa ic se lc rm w q no) (H : ∀ (C T F K rc : Int32) (st rs ti ni cr hc nk ms ei us dn sa fi lo hi wa ic se lc rm w q ih vd ro no : Nat → Int32), iv_I (N + 2) 0 1 st ni cr hc lo hi wa ic se lc rm w q no → wL_law_68 post L xs kc ks n (nI (i + 1)) C T F K rc st rs ti ni cr hc nk ms ei us dn sa fi lo hi wa ic se lc rm w q ih vd ro no) : wL_law_68 post L xs kc ks (n + 1) (nI i) C T F K rc st rs ti ni cr hc nk ms ei us dn sa fi lo hi wa ic se lc rm w q ih vd ro no := by
  refine br_f (nI_ge (b := 6) hi6 (by decide)) (lq_cell (by omega) (by omega) (fun r => ?_))
  refine br_c (fun _ => nm_r (nI_1 i) (H _ _ _ _ _ _ _ _ _ _ _ _ _ _ _ _ _ _ _ _ _ _ _ _ _ _ _ _ _ _ _ (iv_I_N (by omega) hN I))) (fun _ => ?_)
  refine iu_setR _ hN ⟨_, _, _, _, _, _, _, _, _, _, _, _, _, _, _, _, _, _, _, _, _, _, _, _, _, _, _, _, _, _, _, rfl, I⟩ (fun u' I' => ?_)
  obtain ⟨C1, T1, F1, K1, rc1, st1, rs1, ti1, ni1, cr1, hc1, nk1, ms1, ei1, us1, dn1, sa1, fi1, lo1, hi1, wa1, ic1, se1, lc1, rm1, w1, q1, ih1, vd1, ro1, no1, rfl, I1⟩ := I'
  exact nm_r (nI_1 i) (H _ _ _ _ _ _ _ _ _ _ _ _ _ _ _ _ _ _ _ _ _ _ _ _ _ _ _ _ _ _ _ I1)
theorem lq_68e (hL : L ≤ 260) (hp : post 1) (hN : N < 100) (I : iv_I N 0 1 st ni cr hc lo hi wa ic se lc rm w q no) : wL_law_68 post L xs kc ks (n + 1) (nI 6) C T F K rc st rs ti ni cr hc nk ms ei us dn sa fi lo hi wa ic se lc rm w q ih vd ro no := by
  refine br_t (by decide) ?_
  refine iu_up _ (by omega) ⟨_, _, _, _, _, _, _, _, _, _, _, _, _, _, _, _, _, _, _, _, _, _, _, _, _, _, _, _, _, _, _, rfl, I⟩ (fun r u' I' => ?_)
  obtain ⟨C1, T1, F1, K1, rc1, st1, rs1, ti1, ni1, cr1, hc1, nk1, ms1, ei1, us1, dn1, sa1, fi1, lo1, hi1, wa1, ic1, se1, lc1, rm1, w1, q1, ih1, vd1, ro1, no1, rfl, I1⟩ := I'
  refine iu_up _ (by omega) ⟨_, _, _, _, _, _, _, _, _, _, _, _, _, _, _, _, _, _, _, _, _, _, _, _, _, _, _, _, _, _, _, rfl, I1⟩ (fun r u' I' => ?_)
  obtain ⟨C2, T2, F2, K2, rc2, st2, rs2, ti2, ni2, cr2, hc2, nk2, ms2, ei2, us2, dn2, sa2, fi2, lo2, hi2, wa2, ic2, se2, lc2, rm2, w2, q2, ih2, vd2, ro2, no2, rfl, I2⟩ := I'
  refine iu_open _ (by omega) ⟨_, _, _, _, _, _, _, _, _, _, _, _, _, _, _, _, _, _, _, _, _, _, _, _, _, _, _, _, _, _, _, rfl, I2⟩ (fun r u' I' => ?_)
  obtain ⟨C3, T3, F3, K3, rc3, st3, rs3, ti3, ni3, cr3, hc3, nk3, ms3, ei3, us3, dn3, sa3, fi3, lo3, hi3, wa3, ic3, se3, lc3, rm3, w3, q3, ih3, vd3, ro3, no3, rfl, I3⟩ := I'
  refine iu_open _ (by omega) ⟨_, _, _, _, _, _, _, _, _, _, _, _, _, _, _, _, _, _, _, _, _, _, _, _, _, _, _, _, _, _, _, rfl, I3⟩ (fun r u' I' => ?_)
  obtain ⟨C4, T4, F4, K4, rc4, st4, rs4, ti4, ni4, cr4, hc4, nk4, ms4, ei4, us4, dn4, sa4, fi4, lo4, hi4, wa4, ic4, se4, lc4, rm4, w4, q4, ih4, vd4, ro4, no4, rfl, I4⟩ := I'
  refine ho_all ⟨_, _, _, _, _, _, _, _, _, _, _, _, _, _, _, _, _, _, _, _, _, _, _, _, _, _, _, _, _, _, _, rfl, I4⟩ (br_f (by decide) ⟨261, ?_⟩)
  exact lq_136 hL hp 260 6 (N + 2 + 2 + 2 + 2) (by omega) (by decide) (by omega) C4 T4 F4 K4 rc4 st4 rs4 ti4 ni4 cr4 hc4 nk4 ms4 ei4 us4 dn4 sa4 fi4 lo4 hi4 wa4 ic4 se4 lc4 rm4 w4 q4 ih4 vd4 ro4 no4 I4
end LW
