theorem pn_codes (x : Int32) : x < 1 ∨ 11 < x ∨ x = 1 ∨ x = 2 ∨ x = 3 ∨ x = 4 ∨ x = 5 ∨ x = 6 ∨ x = 7 ∨ x = 8 ∨ x = 9 ∨ x = 10 ∨ x = 11 := by
  by_cases h1 : x < 1
  · exact Or.inl h1
  by_cases h2 : 11 < x
  · exact Or.inr (Or.inl h2)
  have hx : x ≤ 11 := Int32.not_lt.mp h2
  have h0 : ¬ x < 0 := fun z => h1 (Int32.lt_trans z (by decide))
  obtain ⟨j, hj, rfl⟩ := nI_of2 (M := 11) (n := 11) (by decide) h0 hx
  have hj1 : 1 ≤ j := by
    rcases Nat.eq_zero_or_pos j with rfl | h
    · exact absurd (by decide) h1
    · exact h
  have : j = 1 ∨ j = 2 ∨ j = 3 ∨ j = 4 ∨ j = 5 ∨ j = 6 ∨ j = 7 ∨ j = 8 ∨ j = 9 ∨ j = 10 ∨ j = 11 := by omega
  rcases this with rfl | rfl | rfl | rfl | rfl | rfl | rfl | rfl | rfl | rfl | rfl <;> decide
theorem pn_lt12 {x : Int32} (h : x < 1) : x < 2 := Int32.lt_trans h (by decide)
theorem pn_gt1 {x : Int32} (h : 11 < x) : ¬ x < 1 := fun z => absurd (Int32.lt_trans h z) (by decide)
theorem pn_gt2 {x : Int32} (h : 11 < x) : ¬ x < 2 := fun z => absurd (Int32.lt_trans h z) (by decide)
theorem pn_gt4 {x : Int32} (h : 11 < x) : 4 < x := Int32.lt_trans (by decide) h
section RV
variable {C T F K rc : Int32} {st rs ti ni cr hc nk ms ei us dn sa fi lo hi wa ic se lc rm w q ih vd ro no mg ou rp ca sg : Nat → Int32} {P : Int32} {p : Nat}
variable {post : SX → Prop} {post2 : SY → Prop} {M : Nat → Int32}
theorem ya_finsk (HP : pn_P P p) {s : Nat} (es : st p = nI s) (hs9 : s ≤ 9) (ht : s < 4 ∨ 8 < s → ti p = 0) (h : post2 (C, T, F, K, pn_I st rs ti ni cr hc nk ms ei us dn sa fi, pn_O lo hi wa ic se lc rm, w, q, mg, ou, rp, ca, sg)) : wpY_fin post2 (C, T, F, K, pn_I st rs ti ni cr hc nk ms ei us dn sa fi, pn_O lo hi wa ic se lc rm, w, q, mg, ou, rp, ca, sg) P (st p) := by
  by_cases c4 : s < 4
  · refine ya_fins0 HP rfl (Or.inl (by rw [es]; exact nI_lt (b := 4) c4 (by decide))) ?_
    rw [pn_self ti p 0 (ht (Or.inl c4))]
    exact h
  · have n4 : ¬ st p < 4 := by rw [es]; exact nI_nlt (b := 4) (by omega) (by omega)
    by_cases c8 : 8 < s
    · refine ya_fins0 HP rfl (Or.inr ⟨n4, by rw [es]; exact nI_ge (b := s) (a := 8) c8 (by omega)⟩) ?_
      rw [pn_self ti p 0 (ht (Or.inr c8))]
      exact h
    · exact ya_fins1 HP rfl n4 (by rw [es]; exact nI_le (b := 8) (by omega) (by decide)) h
theorem ev_ka (HP : pn_P P p) (V : pn_V st ti lo hi ic q no) (hM : ∀ f, f < 7 → ih f = M f) (hN : ∀ f, f < 7 → mg f = M f) (hc3 : M 0 = 9 ∨ M 0 = 10 ∨ M 0 = 11) (H : pn_H post p ih mg (fun Q => wY_receive_428 Q P (st p) (M 0) C T F K (pn_I st rs ti ni cr hc nk ms ei us dn sa fi) (pn_O lo hi wa ic se lc rm) w q mg ou rp ca sg)) : wpX_onKeepalive post (C, T, F, K, rc, st, rs, ti, ni, cr, hc, nk, ms, ei, us, dn, sa, fi, lo, hi, wa, ic, se, lc, rm, w, q, ih, vd, ro, no) P := by
  obtain ⟨VS, VO, VQ, VN⟩ := V
  have hp := pp_lt HP
  have pv := pp_v HP
  obtain ⟨s, hs9, es, ht⟩ := VS p hp
  obtain ⟨z, hz8, ez⟩ := VQ p hp
  have V : pn_V st ti lo hi ic q no := ⟨VS, VO, VQ, VN⟩
  have tk : pn_tj st ti p = ti := pn_tj_k es hs9 ht
  have m0 := hM 0 (by decide)
  have m1 := hM 1 (by decide)
  have y1 := hN 1 (by decide)
  unfold wpX_onKeepalive
  refine ⟨pv, ?_⟩
  rw [pp_n HP, m0, m1]
  by_cases c9 : st p = 9
  · refine br_t c9 ?_
    rcases hc3 with c | c | c
    · refine br_t c (xa_app0 HP VN ez hz8 ?_)
      refine H _ _ _ _ _ _ _ _ _ _ _ _ _ _ _ _ _ _ _ _ _ _ _ _ _ _ _ _ _ _ ?_ (fun Q hQ => ?_)
      · rw [tk]; exact ⟨VS, VO, pn_VQ_a VQ hp, VN⟩
      rw [tk] at hQ
      unfold wY_receive_428
      rw [y1]
      refine br_t c9 (br_t c (ya_out (ya_push HP ez hz8 rfl rfl rfl rfl rfl rfl rfl ?_)))
      refine br_t c9 (br_f (by rw [c]; decide) ?_)
      unfold wY_receive_504
      exact ya_finsk HP es hs9 ht (hQ _ _ _ _)
    · refine br_f (by rw [c]; decide) (br_t c ⟨pv, ?_⟩)
      by_cases ce : M 1 = ei p
      · refine br_t ce ⟨pv, nm_e ?_⟩
        refine H _ _ _ _ _ _ _ _ _ _ _ _ _ _ _ _ _ _ _ _ _ _ _ _ _ _ _ _ _ _ ?_ (fun Q hQ => ?_)
        · rw [tk]; exact V
        rw [tk] at hQ
        unfold wY_receive_428 wY_receive_458
        refine br_t c9 (br_f (by rw [c]; decide) (br_t c9 (br_t c ?_)))
        rw [pp_i8 HP, pp_i7 HP, pn_I_a8, pn_I_u7, y1]
        refine ⟨pp_vi8 HP, br_t ce ⟨pp_vi7 HP, nm_e ?_⟩⟩
        unfold wY_receive_504
        exact ya_finsk HP es hs9 ht (hQ _ _ _ _)
      · refine br_f ce ?_
        refine H _ _ _ _ _ _ _ _ _ _ _ _ _ _ _ _ _ _ _ _ _ _ _ _ _ _ _ _ _ _ ?_ (fun Q hQ => ?_)
        · rw [tk]; exact V
        rw [tk] at hQ
        unfold wY_receive_428 wY_receive_458
        refine br_t c9 (br_f (by rw [c]; decide) (br_t c9 (br_t c ?_)))
        rw [pp_i8 HP, pn_I_a8, y1]
        refine ⟨pp_vi8 HP, br_f ce ?_⟩
        unfold wY_receive_504
        exact ya_finsk HP es hs9 ht (hQ _ _ _ _)
    · refine br_f (by rw [c]; decide) (br_f (by rw [c]; decide) ?_)
      refine H _ _ _ _ _ _ _ _ _ _ _ _ _ _ _ _ _ _ _ _ _ _ _ _ _ _ _ _ _ _ ?_ (fun Q hQ => ?_)
      · rw [tk]; exact V
      rw [tk] at hQ
      unfold wY_receive_428 wY_receive_458
      refine br_t c9 (br_f (by rw [c]; decide) (br_t c9 (br_f (by rw [c]; decide) ?_)))
      unfold wY_receive_504
      exact ya_finsk HP es hs9 ht (hQ _ _ _ _)
  · refine br_f c9 ?_
    refine H _ _ _ _ _ _ _ _ _ _ _ _ _ _ _ _ _ _ _ _ _ _ _ _ _ _ _ _ _ _ ?_ (fun Q hQ => ?_)
    · rw [tk]; exact V
    rw [tk] at hQ
    unfold wY_receive_428 wY_receive_458
    refine br_f c9 (br_f c9 ?_)
    unfold wY_receive_504
    exact ya_finsk HP es hs9 ht (hQ _ _ _ _)
theorem ev_scj (HP : pn_P P p) (V : pn_V st ti lo hi ic q no) (hM : ∀ f, f < 7 → ih f = M f) (hN : ∀ f, f < 7 → mg f = M f) (H : pn_H post p ih mg (fun Q => wpY_scj (fun u => match u with | (C9, T9, F9, K9, nf9, op9, w9, q9, mg9, ou9, rp9, ca9, sg9) => wpY_fin Q (C9, T9, F9, K9, nf9, op9, w9, q9, mg9, ou9, rp9, ca9, sg9) P (st p)) (C, T, F, K, pn_I st rs ti ni cr hc nk ms ei us dn sa fi, pn_O lo hi wa ic se lc rm, w, q, mg, ou, rp, ca, sg) P)) : wpX_sendCodeReject post (C, T, F, K, rc, st, rs, ti, ni, cr, hc, nk, ms, ei, us, dn, sa, fi, lo, hi, wa, ic, se, lc, rm, w, q, ih, vd, ro, no) P := by
  obtain ⟨VS, VO, VQ, VN⟩ := V
  have hp := pp_lt HP
  have pv := pp_v HP
  obtain ⟨s, hs9, es, ht⟩ := VS p hp
  obtain ⟨z, hz8, ez⟩ := VQ p hp
  have V : pn_V st ti lo hi ic q no := ⟨VS, VO, VQ, VN⟩
  have tk : pn_tj st ti p = ti := pn_tj_k es hs9 ht
  refine xa_scj HP VN ez hz8 (hM 0 (by decide)) ?_
  refine H _ _ _ _ _ _ _ _ _ _ _ _ _ _ _ _ _ _ _ _ _ _ _ _ _ _ _ _ _ _ ?_ (fun Q hQ => ?_)
  · rw [tk]; exact ⟨VS, VO, pn_VQ_a VQ hp, VN⟩
  rw [tk] at hQ
  refine ya_scj HP ez hz8 (hN 0 (by decide)) (fun _ => ?_)
  exact ya_finsk HP es hs9 ht (hQ _ _ _ _)
theorem ev_rxp (HP : pn_P P p) (V : pn_V st ti lo hi ic q no) (H : pn_H post p ih mg (fun Q => wY_receive_390 Q P (st p) C T F K (pn_I st rs ti ni cr hc nk ms ei us dn sa fi) (pn_O lo hi wa ic se lc rm) w q mg ou rp ca sg)) : wX_onCodeReject_18 post P C T F K rc st rs ti ni cr hc nk ms ei us dn sa fi lo hi wa ic se lc rm w q ih vd ro no := by
  obtain ⟨VS, VO, VQ, VN⟩ := V
  have hp := pp_lt HP
  have pv := pp_v HP
  obtain ⟨s, hs9, es, ht⟩ := VS p hp
  obtain ⟨z, hz8, ez⟩ := VQ p hp
  have V : pn_V st ti lo hi ic q no := ⟨VS, VO, VQ, VN⟩
  have tk : pn_tj st ti p = ti := pn_tj_k es hs9 ht
  unfold wX_onCodeReject_18
  rw [pp_n HP]
  refine ⟨pv, ?_⟩
  by_cases c7 : st p = 7
  · refine br_t c7 ⟨pv, nm_e ?_⟩
    have tj : ∀ t : Nat → Int32, pn_tj (upd st p 6) t p = t := fun t => pn_tj_on (by rw [pn_at]; decide) (by rw [pn_at]; decide)
    refine H _ _ _ _ _ _ _ _ _ _ _ _ _ _ _ _ _ _ _ _ _ _ _ _ _ _ _ _ _ _ ?_ (fun Q hQ => ?_)
    · rw [tj]; exact ⟨pn_VS_u (n := 6) VS rfl (by decide) (fun j ej => rfl) (fun z => absurd z (by decide)), VO, VQ, VN⟩
    rw [tj] at hQ
    unfold wY_receive_390
    refine br_t c7 ?_
    unfold wY_receive_404
    exact ya_fin1 HP (by decide) (by decide) (hQ _ _ _ _)
  · refine br_f c7 ?_
    refine H _ _ _ _ _ _ _ _ _ _ _ _ _ _ _ _ _ _ _ _ _ _ _ _ _ _ _ _ _ _ ?_ (fun Q hQ => ?_)
    · rw [tk]; exact V
    rw [tk] at hQ
    unfold wY_receive_390
    refine br_f c7 ?_
    unfold wY_receive_404
    exact ya_finsk HP es hs9 ht (hQ _ _ _ _)
theorem pn_C2 {J : Nat → Int32} {n f : Int32} : pn_C J n f = 2 ↔ (pn_R J = 0 ∧ pn_N J = 0) := by
  unfold pn_C
  by_cases c1 : pn_R J = 0
  · rw [if_pos c1]
    by_cases c2 : pn_N J = 0
    · rw [if_pos c2]; exact ⟨fun _ => ⟨c1, c2⟩, fun _ => rfl⟩
    · rw [if_neg c2]
      by_cases c3 : n < f
      · rw [if_pos c3]; exact ⟨fun e => absurd e (by decide), fun e => absurd e.2 c2⟩
      · rw [if_neg c3]; exact ⟨fun e => absurd e (by decide), fun e => absurd e.2 c2⟩
  · rw [if_neg c1]; exact ⟨fun e => absurd e (by decide), fun e => absurd e.1 c1⟩
theorem ev_cls (HP : pn_P P p) (V : pn_V st ti lo hi ic q no) (hM : ∀ f, f < 7 → ih f = M f) (hN : ∀ f, f < 7 → mg f = M f) (h2s : 2 ≤ st p) (H : pn_H post p ih mg (fun Q => wY_receive_72 Q P C T F K (pn_I st rs ti ni cr hc nk ms ei us dn sa fi) (pn_O lo hi wa ic se lc rm) w q mg ou rp ca sg)) : wX_receiveRequest_43 post P C T F K rc st rs ti ni cr hc nk ms ei us dn sa fi lo hi wa ic se lc rm w q ih vd ro no := by
  have VO := V.2.1
  unfold wX_receiveRequest_43
  refine xa_class HP hM (fun vd2 ro2 hro => ?_)
  by_cases c2 : pn_C (pn_J lo hi wa ic p M) (nk p) F = 2
  · obtain ⟨cR, cN⟩ := pn_C2.mp c2
    have hro2 : ∀ k, k < 4 → ro2 k = (fun j => M (3 + j)) k := fun k hk => (hro k hk).trans (if_pos c2)
    refine br_t c2 ?_
    refine ev_good (ou := ou) HP V hM hN h2s hro2 ?_
    intro C1 T1 F1 K1 rc1 st1 rs1 ti1 ni1 cr1 hc1 nk1 ms1 ei1 us1 dn1 sa1 fi1 lo1 hi1 wa1 ic1 se1 lc1 rm1 w1 q1 vd1 ro1 no1 V1 hY
    refine H C1 T1 F1 K1 rc1 st1 rs1 ti1 ni1 cr1 hc1 nk1 ms1 ei1 us1 dn1 sa1 fi1 lo1 hi1 wa1 ic1 se1 lc1 rm1 w1 q1 vd1 ro1 no1 V1 (fun Q hQ => ?_)
    unfold wY_receive_72
    refine ya_class HP VO hN (fun _ _ rp2 ca2 sg2 => ?_) (fun c => absurd ⟨cR, cN⟩ c)
    refine br_f (by decide) ?_
    exact hY _ (fun a b c d => hQ a b c d) rp2 ca2 sg2
  · refine br_f c2 ?_
    have nc : ¬ (pn_R (pn_J lo hi wa ic p M) = 0 ∧ pn_N (pn_J lo hi wa ic p M) = 0) := fun e => c2 (pn_C2.mpr e)
    refine ev_bad (ou := ou) HP V hM hN h2s hro ?_
    intro C1 T1 F1 K1 rc1 st1 rs1 ti1 ni1 cr1 hc1 nk1 ms1 ei1 us1 dn1 sa1 fi1 lo1 hi1 wa1 ic1 se1 lc1 rm1 w1 q1 vd1 ro1 no1 V1 hY
    refine H C1 T1 F1 K1 rc1 st1 rs1 ti1 ni1 cr1 hc1 nk1 ms1 ei1 us1 dn1 sa1 fi1 lo1 hi1 wa1 ic1 se1 lc1 rm1 w1 q1 vd1 ro1 no1 V1 (fun Q hQ => ?_)
    unfold wY_receive_72
    refine ya_class HP VO hN (fun a b => absurd ⟨a, b⟩ nc) (fun _ rp2 ca2 sg2 b0 b1 b2 b3 => ?_)
    refine br_t rfl ?_
    exact hY _ (fun a b c d => hQ a b c d) rp2 ca2 sg2 b0 b1 b2 b3
theorem ev_req (HP : pn_P P p) (V : pn_V st ti lo hi ic q no) (hM : ∀ f, f < 7 → ih f = M f) (hN : ∀ f, f < 7 → mg f = M f) (h2s : 2 ≤ st p) (m01 : M 0 = 1) (H : pn_H post p ih mg (fun Q => wpY_receive Q (C, T, F, K, pn_I st rs ti ni cr hc nk ms ei us dn sa fi, pn_O lo hi wa ic se lc rm, w, q, mg, ou, rp, ca, sg) P)) : wpX_receiveRequest post (C, T, F, K, rc, st, rs, ti, ni, cr, hc, nk, ms, ei, us, dn, sa, fi, lo, hi, wa, ic, se, lc, rm, w, q, ih, vd, ro, no) P := by
  obtain ⟨VS, VO, VQ, VN⟩ := V
  have hp := pp_lt HP
  have pv := pp_v HP
  obtain ⟨s, hs9, es, ht⟩ := VS p hp
  obtain ⟨z, hz8, ez⟩ := VQ p hp
  have V : pn_V st ti lo hi ic q no := ⟨VS, VO, VQ, VN⟩
  have tk : pn_tj st ti p = ti := pn_tj_k es hs9 ht
  have y0 : mg 0 = 1 := (hN 0 (by decide)).trans m01
  have y1 := hN 1 (by decide)
  unfold wpX_receiveRequest
  refine ⟨pv, ?_⟩
  rw [pp_n HP, hM 1 (by decide)]
  by_cases c : hc p ≤ M 1
  · refine br_t c ⟨pv, nm_e ⟨pv, ?_⟩⟩
    by_cases c3 : st p = 3
    · refine br_t c3 (xa_start HP ?_)
      refine ev_cls (ou := ou) (rp := rp) (ca := ca) (sg := sg) HP ⟨VS, pn_VO_in VO, VQ, VN⟩ hM hN h2s ?_
      intro C1 T1 F1 K1 rc1 st1 rs1 ti1 ni1 cr1 hc1 nk1 ms1 ei1 us1 dn1 sa1 fi1 lo1 hi1 wa1 ic1 se1 lc1 rm1 w1 q1 vd1 ro1 no1 V1 hY
      refine H C1 T1 F1 K1 rc1 st1 rs1 ti1 ni1 cr1 hc1 nk1 ms1 ei1 us1 dn1 sa1 fi1 lo1 hi1 wa1 ic1 se1 lc1 rm1 w1 q1 vd1 ro1 no1 V1 (fun Q hQ => ?_)
      unfold wpY_receive
      refine ya_st HP ?_
      rw [pp_i5 HP, pn_I_a5, pn_I_u5, y0, y1]
      refine br_t h2s (nm_e (br_t rfl ⟨pp_vi5 HP, br_t c ⟨pp_vi5 HP, nm_e (br_t c3 (ya_start HP ?_))⟩⟩))
      exact hY _ (fun a b c d => hQ a b c d)
    · refine br_f c3 ?_
      refine ev_cls (ou := ou) (rp := rp) (ca := ca) (sg := sg) HP V hM hN h2s ?_
      intro C1 T1 F1 K1 rc1 st1 rs1 ti1 ni1 cr1 hc1 nk1 ms1 ei1 us1 dn1 sa1 fi1 lo1 hi1 wa1 ic1 se1 lc1 rm1 w1 q1 vd1 ro1 no1 V1 hY
      refine H C1 T1 F1 K1 rc1 st1 rs1 ti1 ni1 cr1 hc1 nk1 ms1 ei1 us1 dn1 sa1 fi1 lo1 hi1 wa1 ic1 se1 lc1 rm1 w1 q1 vd1 ro1 no1 V1 (fun Q hQ => ?_)
      unfold wpY_receive
      refine ya_st HP ?_
      rw [pp_i5 HP, pn_I_a5, pn_I_u5, y0, y1]
      refine br_t h2s (nm_e (br_t rfl ⟨pp_vi5 HP, br_t c ⟨pp_vi5 HP, nm_e (br_f c3 ?_)⟩⟩))
      exact hY _ (fun a b c d => hQ a b c d)
  · refine br_f c ?_
    refine H _ _ _ _ _ _ _ _ _ _ _ _ _ _ _ _ _ _ _ _ _ _ _ _ _ _ _ _ _ _ ?_ (fun Q hQ => ?_)
    · rw [tk]; exact V
    rw [tk] at hQ
    unfold wpY_receive
    refine ya_st HP ?_
    rw [pp_i5 HP, pn_I_a5, y0, y1]
    exact br_t h2s (nm_e (br_t rfl ⟨pp_vi5 HP, br_f c (hQ _ _ _ _)⟩))
theorem ys_vA (HP : pn_P P p) {n k : Nat} {y2 y : Int32} (hN : ∀ f, f < 7 → mg f = M f) (m0 : M 0 = 2) (hk : k < 4) (h : wY_receive_140 post2 P y2 (M 0) C T F K (pn_I st rs ti ni cr hc nk ms ei us dn sa fi) (pn_O lo hi wa ic se lc rm) w q mg ou rp ca sg n (pn_fA M se p k y) (nI (k + 1))) : wY_receive_140 post2 P y2 (M 0) C T F K (pn_I st rs ti ni cr hc nk ms ei us dn sa fi) (pn_O lo hi wa ic se lc rm) w q mg ou rp ca sg (n + 1) y (nI k) := by
  refine br_f (pp_g4 hk) ⟨pp_v3 hk, ?_⟩
  rw [pp_3 hk, hN (3 + k) (by omega), pp_o4 HP hk, pn_O_a4]
  refine nm_e ⟨pp_vo4 HP hk, nm_e ?_⟩
  refine br_t m0 ?_
  by_cases c : M (3 + k) = se (p * 4 + k)
  · rw [show pn_fA M se p k y = y from if_pos c] at h
    exact br_t c (br_f (by rw [m0]; decide) (br_f (by rw [m0]; decide) (nm_r (nI_1 k) h)))
  · rw [show pn_fA M se p k y = 0 from if_neg c] at h
    exact br_f c (br_f (by rw [m0]; decide) (br_f (by rw [m0]; decide) (nm_r (nI_1 k) h)))
theorem ya_vA (HP : pn_P P p) (hN : ∀ f, f < 7 → mg f = M f) (h2s : 2 ≤ st p) (m0 : M 0 = 2) (h : wY_receive_140 post2 P (st p) (M 0) C T F K (pn_I st rs ti ni cr hc nk ms ei us dn sa fi) (pn_O lo hi wa ic se lc rm) w q mg ou rp ca sg 1 (pn_gA M se p (if M 1 = cr p then 1 else 0)) (nI 4)) : wpY_receive post2 (C, T, F, K, pn_I st rs ti ni cr hc nk ms ei us dn sa fi, pn_O lo hi wa ic se lc rm, w, q, mg, ou, rp, ca, sg) P := by
  have y0 := hN 0 (by decide)
  have y1 := hN 1 (by decide)
  unfold wpY_receive
  refine ya_st HP ?_
  rw [pp_i4 HP, pn_I_a4, y0, y1]
  refine br_t h2s (nm_e (br_f (by rw [m0]; decide) (br_f (by rw [m0]; decide) (br_f (by rw [m0]; decide) ⟨pp_vi4 HP, ?_⟩))))
  by_cases c : M 1 = cr p
  · rw [if_pos c] at h
    exact br_t c ⟨5, ys_vA HP hN m0 (k := 0) (by decide) (ys_vA HP hN m0 (k := 1) (by decide) (ys_vA HP hN m0 (k := 2) (by decide) (ys_vA HP hN m0 (k := 3) (by decide) h)))⟩
  · rw [if_neg c] at h
    exact br_f c ⟨5, ys_vA HP hN m0 (k := 0) (by decide) (ys_vA HP hN m0 (k := 1) (by decide) (ys_vA HP hN m0 (k := 2) (by decide) (ys_vA HP hN m0 (k := 3) (by decide) h)))⟩
theorem ys_vN (HP : pn_P P p) {n k : Nat} {y2 y : Int32} (hN : ∀ f, f < 7 → mg f = M f) (m0 : M 0 = 3) (hk : k < 4) (h : wY_receive_140 post2 P y2 (M 0) C T F K (pn_I st rs ti ni cr hc nk ms ei us dn sa fi) (pn_O lo hi wa ic se lc rm) w q mg ou rp ca sg n (pn_fN M se p k y) (nI (k + 1))) : wY_receive_140 post2 P y2 (M 0) C T F K (pn_I st rs ti ni cr hc nk ms ei us dn sa fi) (pn_O lo hi wa ic se lc rm) w q mg ou rp ca sg (n + 1) y (nI k) := by
  refine br_f (pp_g4 hk) ⟨pp_v3 hk, ?_⟩
  rw [pp_3 hk, hN (3 + k) (by omega), pp_o4 HP hk, pn_O_a4]
  refine nm_e ⟨pp_vo4 HP hk, nm_e ?_⟩
  refine br_f (by rw [m0]; decide) (br_t m0 ?_)
  by_cases c : M (3 + k) = -1
  · rw [show pn_fN M se p k y = y from if_pos c] at h
    exact br_t c (br_f (by rw [m0]; decide) (nm_r (nI_1 k) h))
  · refine br_f c ?_
    by_cases c2 : se (p * 4 + k) = -1
    · rw [show pn_fN M se p k y = 0 from (if_neg c).trans (if_pos c2)] at h
      exact br_t c2 (br_f (by rw [m0]; decide) (nm_r (nI_1 k) h))
    · rw [show pn_fN M se p k y = y from (if_neg c).trans (if_neg c2)] at h
      exact br_f c2 (br_f (by rw [m0]; decide) (nm_r (nI_1 k) h))
theorem ya_vN (HP : pn_P P p) (hN : ∀ f, f < 7 → mg f = M f) (h2s : 2 ≤ st p) (m0 : M 0 = 3) (h : wY_receive_140 post2 P (st p) (M 0) C T F K (pn_I st rs ti ni cr hc nk ms ei us dn sa fi) (pn_O lo hi wa ic se lc rm) w q mg ou rp ca sg 1 (pn_gN M se p (if M 1 = cr p then 1 else 0)) (nI 4)) : wpY_receive post2 (C, T, F, K, pn_I st rs ti ni cr hc nk ms ei us dn sa fi, pn_O lo hi wa ic se lc rm, w, q, mg, ou, rp, ca, sg) P := by
  have y0 := hN 0 (by decide)
  have y1 := hN 1 (by decide)
  unfold wpY_receive
  refine ya_st HP ?_
  rw [pp_i4 HP, pn_I_a4, y0, y1]
  refine br_t h2s (nm_e (br_f (by rw [m0]; decide) (br_f (by rw [m0]; decide) (br_f (by rw [m0]; decide) ⟨pp_vi4 HP, ?_⟩))))
  by_cases c : M 1 = cr p
  · rw [if_pos c] at h
    exact br_t c ⟨5, ys_vN HP hN m0 (k := 0) (by decide) (ys_vN HP hN m0 (k := 1) (by decide) (ys_vN HP hN m0 (k := 2) (by decide) (ys_vN HP hN m0 (k := 3) (by decide) h)))⟩
  · rw [if_neg c] at h
    exact br_f c ⟨5, ys_vN HP hN m0 (k := 0) (by decide) (ys_vN HP hN m0 (k := 1) (by decide) (ys_vN HP hN m0 (k := 2) (by decide) (ys_vN HP hN m0 (k := 3) (by decide) h)))⟩
theorem ys_vR (HP : pn_P P p) {n k : Nat} {y2 y : Int32} (hN : ∀ f, f < 7 → mg f = M f) (m0 : M 0 = 4) (hk : k < 4) (h : wY_receive_140 post2 P y2 (M 0) C T F K (pn_I st rs ti ni cr hc nk ms ei us dn sa fi) (pn_O lo hi wa ic se lc rm) w q mg ou rp ca sg n (pn_fR M se p k y) (nI (k + 1))) : wY_receive_140 post2 P y2 (M 0) C T F K (pn_I st rs ti ni cr hc nk ms ei us dn sa fi) (pn_O lo hi wa ic se lc rm) w q mg ou rp ca sg (n + 1) y (nI k) := by
  refine br_f (pp_g4 hk) ⟨pp_v3 hk, ?_⟩
  rw [pp_3 hk, hN (3 + k) (by omega), pp_o4 HP hk, pn_O_a4]
  refine nm_e ⟨pp_vo4 HP hk, nm_e ?_⟩
  refine br_f (by rw [m0]; decide) (br_f (by rw [m0]; decide) (br_t m0 ?_))
  by_cases c : M (3 + k) = -1
  · rw [show pn_fR M se p k y = y from if_pos c] at h
    exact br_t c (nm_r (nI_1 k) h)
  · refine br_f c ?_
    by_cases c2 : M (3 + k) = se (p * 4 + k)
    · rw [show pn_fR M se p k y = y from (if_neg c).trans (if_pos c2)] at h
      exact br_t c2 (nm_r (nI_1 k) h)
    · rw [show pn_fR M se p k y = 0 from (if_neg c).trans (if_neg c2)] at h
      exact br_f c2 (nm_r (nI_1 k) h)
theorem ya_vR (HP : pn_P P p) (hN : ∀ f, f < 7 → mg f = M f) (h2s : 2 ≤ st p) (m0 : M 0 = 4) (h : wY_receive_140 post2 P (st p) (M 0) C T F K (pn_I st rs ti ni cr hc nk ms ei us dn sa fi) (pn_O lo hi wa ic se lc rm) w q mg ou rp ca sg 1 (pn_gR M se p (if M 1 = cr p then 1 else 0)) (nI 4)) : wpY_receive post2 (C, T, F, K, pn_I st rs ti ni cr hc nk ms ei us dn sa fi, pn_O lo hi wa ic se lc rm, w, q, mg, ou, rp, ca, sg) P := by
  have y0 := hN 0 (by decide)
  have y1 := hN 1 (by decide)
  unfold wpY_receive
  refine ya_st HP ?_
  rw [pp_i4 HP, pn_I_a4, y0, y1]
  refine br_t h2s (nm_e (br_f (by rw [m0]; decide) (br_f (by rw [m0]; decide) (br_f (by rw [m0]; decide) ⟨pp_vi4 HP, ?_⟩))))
  by_cases c : M 1 = cr p
  · rw [if_pos c] at h
    exact br_t c ⟨5, ys_vR HP hN m0 (k := 0) (by decide) (ys_vR HP hN m0 (k := 1) (by decide) (ys_vR HP hN m0 (k := 2) (by decide) (ys_vR HP hN m0 (k := 3) (by decide) h)))⟩
  · rw [if_neg c] at h
    exact br_f c ⟨5, ys_vR HP hN m0 (k := 0) (by decide) (ys_vR HP hN m0 (k := 1) (by decide) (ys_vR HP hN m0 (k := 2) (by decide) (ys_vR HP hN m0 (k := 3) (by decide) h)))⟩
theorem xs_loc (HP : pn_P P p) {n k : Nat} (hk : k < 4) (h : wX_receiveAck_33 post P C T F K rc n (nI (k + 1)) st rs ti ni cr hc nk ms ei us dn sa fi lo hi wa ic se (upd lc (p * 4 + k) (se (p * 4 + k))) rm w q ih vd ro no) : wX_receiveAck_33 post P C T F K rc (n + 1) (nI k) st rs ti ni cr hc nk ms ei us dn sa fi lo hi wa ic se lc rm w q ih vd ro no := by
  refine br_f (pp_g4 hk) ?_
  rw [pp_4 HP hk]
  exact ⟨pp_v4 HP hk, pp_v4 HP hk, nm_e (nm_r (nI_1 k) h)⟩
theorem xa_loc (HP : pn_P P p) (h : wX_receiveAck_64 post P C T F K rc st rs ti ni cr hc nk ms ei us dn sa fi lo hi wa ic se (pn_4 lc (p * 4) (fun k => se (p * 4 + k))) rm w q ih vd ro no) : ∃ n, wX_receiveAck_33 post P C T F K rc n 0 st rs ti ni cr hc nk ms ei us dn sa fi lo hi wa ic se lc rm w q ih vd ro no :=
  ⟨5, xs_loc HP (k := 0) (by decide) (xs_loc HP (k := 1) (by decide) (xs_loc HP (k := 2) (by decide) (xs_loc HP (k := 3) (by decide) (br_t pp_44 h))))⟩
theorem ys_loc (HP : pn_P P p) {n k : Nat} {y3 : Int32} (hk : k < 4) (h : wY_receive_263 post2 P y3 C T F K n (nI (k + 1)) (pn_I st rs ti ni cr hc nk ms ei us dn sa fi) (pn_O lo hi wa ic se (upd lc (p * 4 + k) (se (p * 4 + k))) rm) w q mg ou rp ca sg) : wY_receive_263 post2 P y3 C T F K (n + 1) (nI k) (pn_I st rs ti ni cr hc nk ms ei us dn sa fi) (pn_O lo hi wa ic se lc rm) w q mg ou rp ca sg := by
  refine br_f (pp_g4 hk) ?_
  rw [pp_o4 HP hk, pp_o5 HP hk, pn_O_a4, pn_O_u5]
  exact ⟨pp_vo4 HP hk, pp_vo5 HP hk, nm_e (nm_r (nI_1 k) h)⟩
theorem ya_loc (HP : pn_P P p) {y3 : Int32} (h : wY_receive_307 post2 P y3 C T F K (pn_I st rs ti ni cr hc nk ms ei us dn sa fi) (pn_O lo hi wa ic se (pn_4 lc (p * 4) (fun k => se (p * 4 + k))) rm) w q mg ou rp ca sg) : ∃ n, wY_receive_263 post2 P y3 C T F K n 0 (pn_I st rs ti ni cr hc nk ms ei us dn sa fi) (pn_O lo hi wa ic se lc rm) w q mg ou rp ca sg :=
  ⟨5, ys_loc HP (k := 0) (by decide) (ys_loc HP (k := 1) (by decide) (ys_loc HP (k := 2) (by decide) (ys_loc HP (k := 3) (by decide) (br_t pp_44 h))))⟩
theorem ev_rack (HP : pn_P P p) (V : pn_V st ti lo hi ic q no) (hM : ∀ f, f < 7 → ih f = M f) (hN : ∀ f, f < 7 → mg f = M f) (h2s : 2 ≤ st p) (m02 : M 0 = 2) (H : pn_H post p ih mg (fun Q => wpY_receive Q (C, T, F, K, pn_I st rs ti ni cr hc nk ms ei us dn sa fi, pn_O lo hi wa ic se lc rm, w, q, mg, ou, rp, ca, sg) P)) : wpX_receiveAck post (C, T, F, K, rc, st, rs, ti, ni, cr, hc, nk, ms, ei, us, dn, sa, fi, lo, hi, wa, ic, se, lc, rm, w, q, ih, vd, ro, no) P := by
  obtain ⟨VS, VO, VQ, VN⟩ := V
  have hp := pp_lt HP
  have pv := pp_v HP
  obtain ⟨s, hs9, es, ht⟩ := VS p hp
  obtain ⟨z, hz8, ez⟩ := VQ p hp
  have V : pn_V st ti lo hi ic q no := ⟨VS, VO, VQ, VN⟩
  have tk : pn_tj st ti p = ti := pn_tj_k es hs9 ht
  unfold wpX_receiveAck
  refine xa_vA HP hM ?_
  by_cases c0 : pn_gA M se p (if M 1 = cr p then 1 else 0) = 0
  · refine br_t c0 ?_
    refine H _ _ _ _ _ _ _ _ _ _ _ _ _ _ _ _ _ _ _ _ _ _ _ _ _ _ _ _ _ _ ?_ (fun Q hQ => ?_)
    · rw [tk]; exact V
    rw [tk] at hQ
    refine ya_vA HP hN h2s m02 ?_
    exact br_t pp_44 (br_t c0 (hQ _ _ _ _))
  · refine br_f c0 ⟨pv, ?_⟩
    rw [pp_n HP]
    by_cases c6 : st p = 6
    · refine br_t c6 ?_
      refine xa_loc HP ?_
      unfold wX_receiveAck_64
      refine ev_ack (ou := ou) (rp := rp) (ca := ca) (sg := sg) HP V hM hN h2s ?_
      intro C1 T1 F1 K1 rc1 st1 rs1 ti1 ni1 cr1 hc1 nk1 ms1 ei1 us1 dn1 sa1 fi1 lo1 hi1 wa1 ic1 se1 lc1 rm1 w1 q1 vd1 ro1 no1 V1 hY
      refine H C1 T1 F1 K1 rc1 st1 rs1 ti1 ni1 cr1 hc1 nk1 ms1 ei1 us1 dn1 sa1 fi1 lo1 hi1 wa1 ic1 se1 lc1 rm1 w1 q1 vd1 ro1 no1 V1 (fun Q hQ => ?_)
      refine ya_vA HP hN h2s m02 ?_
      refine br_t pp_44 (br_f c0 (br_t m02 (br_t c6 (ya_loc HP ?_))))
      unfold wY_receive_307
      refine br_t m02 ?_
      exact hY _ (fun a b c d => hQ a b c d)
    · refine br_f c6 ⟨pv, ?_⟩
      by_cases c8 : st p = 8
      · refine br_t c8 ?_
        refine xa_loc HP ?_
        unfold wX_receiveAck_64
        refine ev_ack (ou := ou) (rp := rp) (ca := ca) (sg := sg) HP V hM hN h2s ?_
        intro C1 T1 F1 K1 rc1 st1 rs1 ti1 ni1 cr1 hc1 nk1 ms1 ei1 us1 dn1 sa1 fi1 lo1 hi1 wa1 ic1 se1 lc1 rm1 w1 q1 vd1 ro1 no1 V1 hY
        refine H C1 T1 F1 K1 rc1 st1 rs1 ti1 ni1 cr1 hc1 nk1 ms1 ei1 us1 dn1 sa1 fi1 lo1 hi1 wa1 ic1 se1 lc1 rm1 w1 q1 vd1 ro1 no1 V1 (fun Q hQ => ?_)
        refine ya_vA HP hN h2s m02 ?_
        refine br_t pp_44 (br_f c0 (br_t m02 (br_f c6 (br_t c8 (ya_loc HP ?_)))))
        unfold wY_receive_307
        refine br_t m02 ?_
        exact hY _ (fun a b c d => hQ a b c d)
      · refine br_f c8 ?_
        unfold wX_receiveAck_64
        refine ev_ack (ou := ou) (rp := rp) (ca := ca) (sg := sg) HP V hM hN h2s ?_
        intro C1 T1 F1 K1 rc1 st1 rs1 ti1 ni1 cr1 hc1 nk1 ms1 ei1 us1 dn1 sa1 fi1 lo1 hi1 wa1 ic1 se1 lc1 rm1 w1 q1 vd1 ro1 no1 V1 hY
        refine H C1 T1 F1 K1 rc1 st1 rs1 ti1 ni1 cr1 hc1 nk1 ms1 ei1 us1 dn1 sa1 fi1 lo1 hi1 wa1 ic1 se1 lc1 rm1 w1 q1 vd1 ro1 no1 V1 (fun Q hQ => ?_)
        refine ya_vA HP hN h2s m02 ?_
        refine br_t pp_44 (br_f c0 (br_t m02 (br_f c6 (br_f c8 ?_))))
        unfold wY_receive_307
        refine br_t m02 ?_
        exact hY _ (fun a b c d => hQ a b c d)
theorem rv_all (HP : pn_P P p) (V : pn_V st ti lo hi ic q no) (hM : ∀ f, f < 7 → ih f = M f) (hN : ∀ f, f < 7 → mg f = M f) (h2s : 2 ≤ st p) (H : pn_H post p ih mg (fun Q => wpY_receive Q (C, T, F, K, pn_I st rs ti ni cr hc nk ms ei us dn sa fi, pn_O lo hi wa ic se lc rm, w, q, mg, ou, rp, ca, sg) P)) : wpX_receive post (C, T, F, K, rc, st, rs, ti, ni, cr, hc, nk, ms, ei, us, dn, sa, fi, lo, hi, wa, ic, se, lc, rm, w, q, ih, vd, ro, no) P := by
  obtain ⟨VS, VO, VQ, VN⟩ := V
  have hp := pp_lt HP
  have pv := pp_v HP
  obtain ⟨s, hs9, es, ht⟩ := VS p hp
  obtain ⟨z, hz8, ez⟩ := VQ p hp
  have V : pn_V st ti lo hi ic q no := ⟨VS, VO, VQ, VN⟩
  have tk : pn_tj st ti p = ti := pn_tj_k es hs9 ht
  have x0 := hM 0 (by decide)
  have y0 := hN 0 (by decide)
  have hh : M 0 < 1 ∨ 11 < M 0 ∨ M 0 = 1 ∨ M 0 = 2 ∨ M 0 = 3 ∨ M 0 = 4 ∨ M 0 = 5 ∨ M 0 = 6 ∨ M 0 = 7 ∨ M 0 = 8 ∨ M 0 = 9 ∨ M 0 = 10 ∨ M 0 = 11 := pn_codes (M 0)
  unfold wpX_receive
  rcases hh with c | c | c | c | c | c | c | c | c | c | c | c | c
  · refine nm_e (br_t (by rw [x0]; exact c) ?_)
    unfold wX_receive_144
    refine ev_scj (ou := ou) (rp := rp) (ca := ca) (sg := sg) HP V hM hN ?_
    intro C1 T1 F1 K1 rc1 st1 rs1 ti1 ni1 cr1 hc1 nk1 ms1 ei1 us1 dn1 sa1 fi1 lo1 hi1 wa1 ic1 se1 lc1 rm1 w1 q1 vd1 ro1 no1 V1 hY
    refine H C1 T1 F1 K1 rc1 st1 rs1 ti1 ni1 cr1 hc1 nk1 ms1 ei1 us1 dn1 sa1 fi1 lo1 hi1 wa1 ic1 se1 lc1 rm1 w1 q1 vd1 ro1 no1 V1 (fun Q hQ => ?_)
    unfold wpY_receive
    refine ya_st HP ?_
    rw [y0]
    refine br_t h2s (nm_e (br_f (by intro z; rw [z] at c; revert c; decide) (br_t (pn_lt12 c) ?_)))
    unfold wY_receive_328
    refine br_f (by intro z; rw [z] at c; revert c; decide) (br_f (by intro z; rw [z] at c; revert c; decide) (br_f (by intro z; rw [z] at c; revert c; decide) (br_f (by intro z; rw [z] at c; revert c; decide) (br_f (by intro z; rw [z] at c; revert c; decide) (br_f (by intro z; rw [z] at c; revert c; decide) ?_)))))
    exact hY _ (fun a b c d => hQ a b c d)
  · refine nm_e (br_f (by rw [x0]; exact pn_gt1 c) (br_t (by rw [x0]; exact c) ?_))
    unfold wX_receive_144
    refine ev_scj (ou := ou) (rp := rp) (ca := ca) (sg := sg) HP V hM hN ?_
    intro C1 T1 F1 K1 rc1 st1 rs1 ti1 ni1 cr1 hc1 nk1 ms1 ei1 us1 dn1 sa1 fi1 lo1 hi1 wa1 ic1 se1 lc1 rm1 w1 q1 vd1 ro1 no1 V1 hY
    refine H C1 T1 F1 K1 rc1 st1 rs1 ti1 ni1 cr1 hc1 nk1 ms1 ei1 us1 dn1 sa1 fi1 lo1 hi1 wa1 ic1 se1 lc1 rm1 w1 q1 vd1 ro1 no1 V1 (fun Q hQ => ?_)
    unfold wpY_receive
    refine ya_st HP ?_
    rw [y0]
    refine br_t h2s (nm_e (br_f (by intro z; rw [z] at c; revert c; decide) (br_f (pn_gt2 c) (br_t (pn_gt4 c) ?_))))
    unfold wY_receive_328
    refine br_f (by intro z; rw [z] at c; revert c; decide) (br_f (by intro z; rw [z] at c; revert c; decide) (br_f (by intro z; rw [z] at c; revert c; decide) (br_f (by intro z; rw [z] at c; revert c; decide) (br_f (by intro z; rw [z] at c; revert c; decide) (br_f (by intro z; rw [z] at c; revert c; decide) ?_)))))
    exact hY _ (fun a b c d => hQ a b c d)
  · refine nm_e ?_
    rw [x0, c]
    refine (br_f (by decide) (br_f (by decide) (br_t (by decide) ?_)))
    refine ev_req (ou := ou) (rp := rp) (ca := ca) (sg := sg) HP V hM hN h2s c ?_
    intro C1 T1 F1 K1 rc1 st1 rs1 ti1 ni1 cr1 hc1 nk1 ms1 ei1 us1 dn1 sa1 fi1 lo1 hi1 wa1 ic1 se1 lc1 rm1 w1 q1 vd1 ro1 no1 V1 hY
    exact H C1 T1 F1 K1 rc1 st1 rs1 ti1 ni1 cr1 hc1 nk1 ms1 ei1 us1 dn1 sa1 fi1 lo1 hi1 wa1 ic1 se1 lc1 rm1 w1 q1 vd1 ro1 no1 V1 hY
  · refine nm_e ?_
    rw [x0, c]
    refine (br_f (by decide) (br_f (by decide) (br_f (by decide) (br_t (by decide) ?_))))
    refine ev_rack (ou := ou) (rp := rp) (ca := ca) (sg := sg) HP V hM hN h2s c ?_
    intro C1 T1 F1 K1 rc1 st1 rs1 ti1 ni1 cr1 hc1 nk1 ms1 ei1 us1 dn1 sa1 fi1 lo1 hi1 wa1 ic1 se1 lc1 rm1 w1 q1 vd1 ro1 no1 V1 hY
    exact H C1 T1 F1 K1 rc1 st1 rs1 ti1 ni1 cr1 hc1 nk1 ms1 ei1 us1 dn1 sa1 fi1 lo1 hi1 wa1 ic1 se1 lc1 rm1 w1 q1 vd1 ro1 no1 V1 hY
  · refine nm_e ?_
    rw [x0, c]
    refine (br_f (by decide) (br_f (by decide) (br_f (by decide) (br_f (by decide) (br_t (by decide) ?_)))))
    refine xa_vN HP hM ?_
    by_cases c0 : pn_gN M se p (if M 1 = cr p then 1 else 0) = 0
    · refine br_t c0 ?_
      refine H _ _ _ _ _ _ _ _ _ _ _ _ _ _ _ _ _ _ _ _ _ _ _ _ _ _ _ _ _ _ ?_ (fun Q hQ => ?_)
      · rw [tk]; exact V
      rw [tk] at hQ
      refine ya_vN HP hN h2s c ?_
      exact br_t pp_44 (br_t c0 (hQ _ _ _ _))
    · refine br_f c0 ?_
      refine ev_ref (ou := ou) (rp := rp) (ca := ca) (sg := sg) HP V hM hN h2s (Or.inl c) ?_
      intro C1 T1 F1 K1 rc1 st1 rs1 ti1 ni1 cr1 hc1 nk1 ms1 ei1 us1 dn1 sa1 fi1 lo1 hi1 wa1 ic1 se1 lc1 rm1 w1 q1 vd1 ro1 no1 V1 hY
      refine H C1 T1 F1 K1 rc1 st1 rs1 ti1 ni1 cr1 hc1 nk1 ms1 ei1 us1 dn1 sa1 fi1 lo1 hi1 wa1 ic1 se1 lc1 rm1 w1 q1 vd1 ro1 no1 V1 (fun Q hQ => ?_)
      refine ya_vN HP hN h2s c ?_
      refine br_t pp_44 (br_f c0 (br_f (by rw [c]; decide) ?_))
      unfold wY_receive_307
      refine br_f (by rw [c]; decide) ?_
      exact hY _ (fun a b c d => hQ a b c d)
  · refine nm_e ?_
    rw [x0, c]
    refine (br_f (by decide) (br_f (by decide) (br_f (by decide) (br_f (by decide) (br_f (by decide) (br_t (by decide) ?_))))))
    refine xa_vR HP hM ?_
    by_cases c0 : pn_gR M se p (if M 1 = cr p then 1 else 0) = 0
    · refine br_t c0 ?_
      refine H _ _ _ _ _ _ _ _ _ _ _ _ _ _ _ _ _ _ _ _ _ _ _ _ _ _ _ _ _ _ ?_ (fun Q hQ => ?_)
      · rw [tk]; exact V
      rw [tk] at hQ
      refine ya_vR HP hN h2s c ?_
      exact br_t pp_44 (br_t c0 (hQ _ _ _ _))
    · refine br_f c0 ?_
      refine ev_ref (ou := ou) (rp := rp) (ca := ca) (sg := sg) HP V hM hN h2s (Or.inr c) ?_
      intro C1 T1 F1 K1 rc1 st1 rs1 ti1 ni1 cr1 hc1 nk1 ms1 ei1 us1 dn1 sa1 fi1 lo1 hi1 wa1 ic1 se1 lc1 rm1 w1 q1 vd1 ro1 no1 V1 hY
      refine H C1 T1 F1 K1 rc1 st1 rs1 ti1 ni1 cr1 hc1 nk1 ms1 ei1 us1 dn1 sa1 fi1 lo1 hi1 wa1 ic1 se1 lc1 rm1 w1 q1 vd1 ro1 no1 V1 (fun Q hQ => ?_)
      refine ya_vR HP hN h2s c ?_
      refine br_t pp_44 (br_f c0 (br_f (by rw [c]; decide) ?_))
      unfold wY_receive_307
      refine br_f (by rw [c]; decide) ?_
      exact hY _ (fun a b c d => hQ a b c d)
  · refine nm_e ?_
    rw [x0, c]
    refine (br_f (by decide) (br_f (by decide) (br_f (by decide) (br_f (by decide) (br_f (by decide) (br_f (by decide) (br_t (by decide) ?_)))))))
    refine ev_rtr (ou := ou) (rp := rp) (ca := ca) (sg := sg) HP V hM hN h2s ?_
    intro C1 T1 F1 K1 rc1 st1 rs1 ti1 ni1 cr1 hc1 nk1 ms1 ei1 us1 dn1 sa1 fi1 lo1 hi1 wa1 ic1 se1 lc1 rm1 w1 q1 vd1 ro1 no1 V1 hY
    refine H C1 T1 F1 K1 rc1 st1 rs1 ti1 ni1 cr1 hc1 nk1 ms1 ei1 us1 dn1 sa1 fi1 lo1 hi1 wa1 ic1 se1 lc1 rm1 w1 q1 vd1 ro1 no1 V1 (fun Q hQ => ?_)
    unfold wpY_receive
    refine ya_st HP ?_
    rw [y0, c]
    refine br_t h2s (nm_e (br_f (by decide) (br_f (by decide) (br_t (by decide) (br_t (by decide) ?_)))))
    exact hY _ (fun a b c d => hQ a b c d)
  · refine nm_e ?_
    rw [x0, c]
    refine (br_f (by decide) (br_f (by decide) (br_f (by decide) (br_f (by decide) (br_f (by decide) (br_f (by decide) (br_f (by decide) (br_t (by decide) ?_))))))))
    refine ev_rta (ou := ou) (rp := rp) (ca := ca) (sg := sg) HP V hM hN h2s ?_
    intro C1 T1 F1 K1 rc1 st1 rs1 ti1 ni1 cr1 hc1 nk1 ms1 ei1 us1 dn1 sa1 fi1 lo1 hi1 wa1 ic1 se1 lc1 rm1 w1 q1 vd1 ro1 no1 V1 hY
    refine H C1 T1 F1 K1 rc1 st1 rs1 ti1 ni1 cr1 hc1 nk1 ms1 ei1 us1 dn1 sa1 fi1 lo1 hi1 wa1 ic1 se1 lc1 rm1 w1 q1 vd1 ro1 no1 V1 (fun Q hQ => ?_)
    unfold wpY_receive
    refine ya_st HP ?_
    rw [y0, c]
    refine br_t h2s (nm_e (br_f (by decide) (br_f (by decide) (br_t (by decide) (br_f (by decide) (br_t (by decide) ?_))))))
    exact hY _ (fun a b c d => hQ a b c d)
  · refine nm_e ?_
    rw [x0, c]
    refine (br_f (by decide) (br_f (by decide) (br_f (by decide) (br_f (by decide) (br_f (by decide) (br_f (by decide) (br_f (by decide) (br_f (by decide) (br_t (by decide) ?_)))))))))
    have x2 := hM 2 (by decide)
    have y2 := hN 2 (by decide)
    by_cases b1 : M 2 < 1
    · unfold wpX_onCodeReject
      refine nm_e (br_t (by rw [x2]; exact b1) ?_)
      refine ev_rxp (mg := mg) (ou := ou) (rp := rp) (ca := ca) (sg := sg) HP V ?_
      intro C1 T1 F1 K1 rc1 st1 rs1 ti1 ni1 cr1 hc1 nk1 ms1 ei1 us1 dn1 sa1 fi1 lo1 hi1 wa1 ic1 se1 lc1 rm1 w1 q1 vd1 ro1 no1 V1 hY
      refine H C1 T1 F1 K1 rc1 st1 rs1 ti1 ni1 cr1 hc1 nk1 ms1 ei1 us1 dn1 sa1 fi1 lo1 hi1 wa1 ic1 se1 lc1 rm1 w1 q1 vd1 ro1 no1 V1 (fun Q hQ => ?_)
      unfold wpY_receive
      refine ya_st HP ?_
      rw [y0, c]
      refine br_t h2s (nm_e (br_f (by decide) (br_f (by decide) (br_t (by decide) (br_f (by decide) (br_f (by decide) (br_t (by decide) (br_t (by rw [y2]; exact b1) ?_))))))))
      exact hY _ (fun a b c d => hQ a b c d)
    · by_cases b7 : M 2 ≤ 7
      · refine ev_rxj (ou := ou) (rp := rp) (ca := ca) (sg := sg) HP V hM hN h2s b1 b7 ?_
        intro C1 T1 F1 K1 rc1 st1 rs1 ti1 ni1 cr1 hc1 nk1 ms1 ei1 us1 dn1 sa1 fi1 lo1 hi1 wa1 ic1 se1 lc1 rm1 w1 q1 vd1 ro1 no1 V1 hY
        refine H C1 T1 F1 K1 rc1 st1 rs1 ti1 ni1 cr1 hc1 nk1 ms1 ei1 us1 dn1 sa1 fi1 lo1 hi1 wa1 ic1 se1 lc1 rm1 w1 q1 vd1 ro1 no1 V1 (fun Q hQ => ?_)
        unfold wpY_receive
        refine ya_st HP ?_
        rw [y0, c]
        refine br_t h2s (nm_e (br_f (by decide) (br_f (by decide) (br_t (by decide) (br_f (by decide) (br_f (by decide) (br_t (by decide) (br_f (by rw [y2]; exact b1) (br_f (by rw [y2]; exact Int32.not_lt.mpr b7) ?_)))))))))
        exact hY _ (fun a b c d => hQ a b c d)
      · unfold wpX_onCodeReject
        refine nm_e (br_f (by rw [x2]; exact b1) (br_f (by rw [x2]; exact b7) ?_))
        refine ev_rxp (mg := mg) (ou := ou) (rp := rp) (ca := ca) (sg := sg) HP V ?_
        intro C1 T1 F1 K1 rc1 st1 rs1 ti1 ni1 cr1 hc1 nk1 ms1 ei1 us1 dn1 sa1 fi1 lo1 hi1 wa1 ic1 se1 lc1 rm1 w1 q1 vd1 ro1 no1 V1 hY
        refine H C1 T1 F1 K1 rc1 st1 rs1 ti1 ni1 cr1 hc1 nk1 ms1 ei1 us1 dn1 sa1 fi1 lo1 hi1 wa1 ic1 se1 lc1 rm1 w1 q1 vd1 ro1 no1 V1 (fun Q hQ => ?_)
        unfold wpY_receive
        refine ya_st HP ?_
        rw [y0, c]
        refine br_t h2s (nm_e (br_f (by decide) (br_f (by decide) (br_t (by decide) (br_f (by decide) (br_f (by decide) (br_t (by decide) (br_f (by rw [y2]; exact b1) (br_t (by rw [y2]; exact Int32.not_le.mp b7) ?_)))))))))
        exact hY _ (fun a b c d => hQ a b c d)
  · refine nm_e ?_
    rw [x0, c]
    refine (br_f (by decide) (br_f (by decide) (br_f (by decide) (br_f (by decide) (br_f (by decide) (br_f (by decide) (br_f (by decide) (br_f (by decide) (br_f (by decide) (br_t (by decide) ?_))))))))))
    unfold wX_receive_144
    refine ev_scj (ou := ou) (rp := rp) (ca := ca) (sg := sg) HP V hM hN ?_
    intro C1 T1 F1 K1 rc1 st1 rs1 ti1 ni1 cr1 hc1 nk1 ms1 ei1 us1 dn1 sa1 fi1 lo1 hi1 wa1 ic1 se1 lc1 rm1 w1 q1 vd1 ro1 no1 V1 hY
    refine H C1 T1 F1 K1 rc1 st1 rs1 ti1 ni1 cr1 hc1 nk1 ms1 ei1 us1 dn1 sa1 fi1 lo1 hi1 wa1 ic1 se1 lc1 rm1 w1 q1 vd1 ro1 no1 V1 (fun Q hQ => ?_)
    unfold wpY_receive
    refine ya_st HP ?_
    rw [y0, c]
    refine br_t h2s (nm_e (br_f (by decide) (br_f (by decide) (br_t (by decide) (br_f (by decide) (br_f (by decide) (br_f (by decide) (br_f (by decide) (br_f (by decide) (br_f (by decide) ?_))))))))))
    exact hY _ (fun a b c d => hQ a b c d)
  · refine nm_e ?_
    rw [x0, c]
    refine (br_f (by decide) (br_f (by decide) (br_f (by decide) (br_f (by decide) (br_f (by decide) (br_f (by decide) (br_f (by decide) (br_f (by decide) (br_f (by decide) (br_f (by decide) (br_t (by decide) ?_)))))))))))
    unfold wX_receive_136
    refine ev_ka (ou := ou) (rp := rp) (ca := ca) (sg := sg) HP V hM hN (Or.inl c) ?_
    intro C1 T1 F1 K1 rc1 st1 rs1 ti1 ni1 cr1 hc1 nk1 ms1 ei1 us1 dn1 sa1 fi1 lo1 hi1 wa1 ic1 se1 lc1 rm1 w1 q1 vd1 ro1 no1 V1 hY
    refine H C1 T1 F1 K1 rc1 st1 rs1 ti1 ni1 cr1 hc1 nk1 ms1 ei1 us1 dn1 sa1 fi1 lo1 hi1 wa1 ic1 se1 lc1 rm1 w1 q1 vd1 ro1 no1 V1 (fun Q hQ => ?_)
    have hZ := hY Q hQ
    unfold wpY_receive
    refine ya_st HP ?_
    rw [y0, c]
    rw [c] at hZ
    exact br_t h2s (nm_e (br_f (by decide) (br_f (by decide) (br_t (by decide) (br_f (by decide) (br_f (by decide) (br_f (by decide) (br_t (by decide) hZ))))))))
  · refine nm_e ?_
    rw [x0, c]
    refine (br_f (by decide) (br_f (by decide) (br_f (by decide) (br_f (by decide) (br_f (by decide) (br_f (by decide) (br_f (by decide) (br_f (by decide) (br_f (by decide) (br_f (by decide) (br_f (by decide) (br_t (by decide) ?_))))))))))))
    unfold wX_receive_136
    refine ev_ka (ou := ou) (rp := rp) (ca := ca) (sg := sg) HP V hM hN (Or.inr (Or.inl c)) ?_
    intro C1 T1 F1 K1 rc1 st1 rs1 ti1 ni1 cr1 hc1 nk1 ms1 ei1 us1 dn1 sa1 fi1 lo1 hi1 wa1 ic1 se1 lc1 rm1 w1 q1 vd1 ro1 no1 V1 hY
    refine H C1 T1 F1 K1 rc1 st1 rs1 ti1 ni1 cr1 hc1 nk1 ms1 ei1 us1 dn1 sa1 fi1 lo1 hi1 wa1 ic1 se1 lc1 rm1 w1 q1 vd1 ro1 no1 V1 (fun Q hQ => ?_)
    have hZ := hY Q hQ
    unfold wpY_receive
    refine ya_st HP ?_
    rw [y0, c]
    rw [c] at hZ
    exact br_t h2s (nm_e (br_f (by decide) (br_f (by decide) (br_t (by decide) (br_f (by decide) (br_f (by decide) (br_f (by decide) (br_f (by decide) (br_t (by decide) hZ)))))))))
  · refine nm_e ?_
    rw [x0, c]
    refine (br_f (by decide) (br_f (by decide) (br_f (by decide) (br_f (by decide) (br_f (by decide) (br_f (by decide) (br_f (by decide) (br_f (by decide) (br_f (by decide) (br_f (by decide) (br_f (by decide) (br_f (by decide) (br_t (by decide) ?_)))))))))))))
    unfold wX_receive_136
    refine ev_ka (ou := ou) (rp := rp) (ca := ca) (sg := sg) HP V hM hN (Or.inr (Or.inr c)) ?_
    intro C1 T1 F1 K1 rc1 st1 rs1 ti1 ni1 cr1 hc1 nk1 ms1 ei1 us1 dn1 sa1 fi1 lo1 hi1 wa1 ic1 se1 lc1 rm1 w1 q1 vd1 ro1 no1 V1 hY
    refine H C1 T1 F1 K1 rc1 st1 rs1 ti1 ni1 cr1 hc1 nk1 ms1 ei1 us1 dn1 sa1 fi1 lo1 hi1 wa1 ic1 se1 lc1 rm1 w1 q1 vd1 ro1 no1 V1 (fun Q hQ => ?_)
    have hZ := hY Q hQ
    unfold wpY_receive
    refine ya_st HP ?_
    rw [y0, c]
    rw [c] at hZ
    exact br_t h2s (nm_e (br_f (by decide) (br_f (by decide) (br_t (by decide) (br_f (by decide) (br_f (by decide) (br_f (by decide) (br_f (by decide) (br_f (by decide) (br_t (by decide) hZ))))))))))
end RV
