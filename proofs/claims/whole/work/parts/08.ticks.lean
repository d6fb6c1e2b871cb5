theorem pp_ge0 {P : Int32} {p : Nat} (H : pn_P P p) : ¬ P < 0 := by
  rcases H with ⟨rfl, rfl⟩ | ⟨rfl, rfl⟩ <;> decide
theorem pp_le1 {P : Int32} {p : Nat} (H : pn_P P p) : P ≤ 1 := by
  rcases H with ⟨rfl, rfl⟩ | ⟨rfl, rfl⟩ <;> decide
theorem pp_ng1 {P : Int32} {p : Nat} (H : pn_P P p) : ¬ 1 < P := by
  rcases H with ⟨rfl, rfl⟩ | ⟨rfl, rfl⟩ <;> decide
theorem pp_n2 {P : Int32} {p : Nat} (H : pn_P P p) : ¬ 2 ≤ P := by
  rcases H with ⟨rfl, rfl⟩ | ⟨rfl, rfl⟩ <;> decide
section TK
variable {C T F K rc : Int32} {st rs ti ni cr hc nk ms ei us dn sa fi lo hi wa ic se lc rm w q ih vd ro no mg ou rp ca sg : Nat → Int32} {P : Int32} {p : Nat}
variable {post : SX → Prop} {N : Int32} {k n : Nat}
theorem tk_one {C0 T0 F0 K0 rc0 : Int32} {st0 rs0 ti0 ni0 cr0 hc0 nk0 ms0 ei0 us0 dn0 sa0 fi0 lo0 hi0 wa0 ic0 se0 lc0 rm0 w0 q0 vd0 ro0 no0 : Nat → Int32} (HP : pn_P P p) (eN : P + 1 = N) (V : pn_V st0 ti0 lo0 hi0 ic0 q0 no0) (H : ∀ (C T F K rc : Int32) (st rs ti ni cr hc nk ms ei us dn sa fi lo hi wa ic se lc rm w q vd ro no : Nat → Int32), pn_V st ti lo hi ic q no → (∀ (Q : SY → Prop) (m : Nat), (∀ ou rp ca sg : Nat → Int32, wY_tick_2 Q m N C T F K (pn_I st rs ti ni cr hc nk ms ei us dn sa fi) (pn_O lo hi wa ic se lc rm) w q mg ou rp ca sg) → ∀ ou rp ca sg : Nat → Int32, wY_tick_2 Q (m + 1) P C0 T0 F0 K0 (pn_I st0 rs0 ti0 ni0 cr0 hc0 nk0 ms0 ei0 us0 dn0 sa0 fi0) (pn_O lo0 hi0 wa0 ic0 se0 lc0 rm0) w0 q0 mg ou rp ca sg) → wX_tick_2 post n N C T F K rc st rs ti ni cr hc nk ms ei us dn sa fi lo hi wa ic se lc rm w q ih vd ro no) : wX_tick_2 post (n + 1) P C0 T0 F0 K0 rc0 st0 rs0 ti0 ni0 cr0 hc0 nk0 ms0 ei0 us0 dn0 sa0 fi0 lo0 hi0 wa0 ic0 se0 lc0 rm0 w0 q0 ih vd0 ro0 no0 := by
  obtain ⟨VS, VO, VQ, VN⟩ := V
  have hp := pp_lt HP
  have pv := pp_v HP
  obtain ⟨s, hs9, es, ht⟩ := VS p hp
  have V : pn_V st0 ti0 lo0 hi0 ic0 q0 no0 := ⟨VS, VO, VQ, VN⟩
  refine br_f (pp_n2 HP) ?_
  by_cases h4 : st0 p < 4
  · refine xa_timed0 HP (Or.inl h4) (br_t rfl (nm_r eN ?_))
    refine H _ _ _ _ _ _ _ _ _ _ _ _ _ _ _ _ _ _ _ _ _ _ _ _ _ _ _ _ _ _ V (fun Q m h ou9 rp9 ca9 sg9 => ?_)
    refine br_f (pp_n2 HP) (ya_st HP ?_)
    exact br_t h4 (nm_r eN (h _ _ _ _))
  by_cases h8 : 8 < st0 p
  · refine xa_timed0 HP (Or.inr ⟨h4, h8⟩) (br_t rfl (nm_r eN ?_))
    refine H _ _ _ _ _ _ _ _ _ _ _ _ _ _ _ _ _ _ _ _ _ _ _ _ _ _ _ _ _ _ V (fun Q m h ou9 rp9 ca9 sg9 => ?_)
    refine br_f (pp_n2 HP) (ya_st HP ?_)
    exact br_f h4 (br_t h8 (nm_r eN (h _ _ _ _)))
  refine xa_timed1 HP h4 h8 (br_f (by decide) ⟨pv, ?_⟩)
  rw [pp_n HP]
  by_cases t0 : ti0 p ≤ 0
  · refine br_t t0 (nm_r eN ?_)
    refine H _ _ _ _ _ _ _ _ _ _ _ _ _ _ _ _ _ _ _ _ _ _ _ _ _ _ _ _ _ _ V (fun Q m h ou9 rp9 ca9 sg9 => ?_)
    refine br_f (pp_n2 HP) (ya_st HP (br_f h4 (br_f h8 ⟨pp_vi2 HP, ?_⟩)))
    rw [pp_i2 HP, pn_I_a2]
    exact br_t t0 (nm_r eN (h _ _ _ _))
  refine br_f t0 ⟨pv, pv, nm_e ⟨pv, ?_⟩⟩
  rw [pn_at]
  have hon : ¬ (s < 4 ∨ 8 < s) := by
    intro zz
    rcases zz with zz | zz
    · exact h4 (by rw [es]; exact nI_lt (b := 4) zz (by decide))
    · exact h8 (by rw [es]; exact nI_lt (a := 8) zz (by omega))
  have V2 : pn_V st0 (upd ti0 p (ti0 p - 1)) lo0 hi0 ic0 q0 no0 := ⟨pn_VS_k VS hp es hs9 (fun j ej => pn_ne _ _ ej) (fun zz => absurd zz hon), VO, VQ, VN⟩
  by_cases tz : ti0 p - 1 = 0
  · refine br_t tz ?_
    by_cases hr : 0 < rs0 p
    · refine ev_top (mg := mg) HP V2 hr h4 h8 ?_
      intro C1 T1 F1 K1 rc1 st1 rs1 ti1 ni1 cr1 hc1 nk1 ms1 ei1 us1 dn1 sa1 fi1 lo1 hi1 wa1 ic1 se1 lc1 rm1 w1 q1 vd1 ro1 no1 V1 hY
      refine xa_setl HP (nm_r eN ?_)
      refine H C1 T1 F1 K1 rc1 st1 rs1 (pn_tj st1 ti1 p) ni1 cr1 hc1 nk1 ms1 ei1 us1 dn1 sa1 fi1 lo1 hi1 wa1 ic1 se1 lc1 rm1 w1 q1 vd1 ro1 no1 V1 (fun Q m h ou9 rp9 ca9 sg9 => ?_)
      refine br_f (pp_n2 HP) (ya_st HP (br_f h4 (br_f h8 ⟨pp_vi2 HP, ?_⟩)))
      rw [pp_i2 HP, pn_I_a2, pn_I_u2]
      refine br_f t0 ⟨pp_vi2 HP, pp_vi2 HP, nm_e ⟨pp_vi2 HP, ?_⟩⟩
      rw [pn_I_a2, pn_at]
      rw [pp_i1 HP, pn_I_a1]
      refine br_t tz ⟨pp_vi1 HP, br_f (Int32.not_le.mpr hr) ?_⟩
      refine hY _ (fun a b c d => ?_) _ _ _ _
      exact nm_r eN (h a b c d)
    · refine ev_tom (mg := mg) HP V2 hr h4 h8 ?_
      intro C1 T1 F1 K1 rc1 st1 rs1 ti1 ni1 cr1 hc1 nk1 ms1 ei1 us1 dn1 sa1 fi1 lo1 hi1 wa1 ic1 se1 lc1 rm1 w1 q1 vd1 ro1 no1 V1 hY
      refine xa_setl HP (nm_r eN ?_)
      refine H C1 T1 F1 K1 rc1 st1 rs1 (pn_tj st1 ti1 p) ni1 cr1 hc1 nk1 ms1 ei1 us1 dn1 sa1 fi1 lo1 hi1 wa1 ic1 se1 lc1 rm1 w1 q1 vd1 ro1 no1 V1 (fun Q m h ou9 rp9 ca9 sg9 => ?_)
      refine br_f (pp_n2 HP) (ya_st HP (br_f h4 (br_f h8 ⟨pp_vi2 HP, ?_⟩)))
      rw [pp_i2 HP, pn_I_a2, pn_I_u2]
      refine br_f t0 ⟨pp_vi2 HP, pp_vi2 HP, nm_e ⟨pp_vi2 HP, ?_⟩⟩
      rw [pn_I_a2, pn_at]
      rw [pp_i1 HP, pn_I_a1]
      refine br_t tz ⟨pp_vi1 HP, br_t (Int32.not_lt.mp hr) ?_⟩
      refine hY _ (fun a b c d => ?_) _ _ _ _
      exact nm_r eN (h a b c d)
  · refine br_f tz (nm_r eN ?_)
    refine H _ _ _ _ _ _ _ _ _ _ _ _ _ _ _ _ _ _ _ _ _ _ _ _ _ _ _ _ _ _ V2 (fun Q m h ou9 rp9 ca9 sg9 => ?_)
    refine br_f (pp_n2 HP) (ya_st HP (br_f h4 (br_f h8 ⟨pp_vi2 HP, ?_⟩)))
    rw [pp_i2 HP, pn_I_a2, pn_I_u2]
    refine br_f t0 ⟨pp_vi2 HP, pp_vi2 HP, nm_e ⟨pp_vi2 HP, ?_⟩⟩
    rw [pn_I_a2, pn_at]
    exact br_f tz (nm_r eN (h _ _ _ _))
theorem op_tick (V : pn_V st ti lo hi ic q no) : wpX_tick (fun u' => wpY_tick (fun v' => i_Rel k u' v') (C, T, F, K, pn_I st rs ti ni cr hc nk ms ei us dn sa fi, pn_O lo hi wa ic se lc rm, w, q, mg, ou, rp, ca, sg)) (C, T, F, K, rc, st, rs, ti, ni, cr, hc, nk, ms, ei, us, dn, sa, fi, lo, hi, wa, ic, se, lc, rm, w, q, ih, vd, ro, no) := by
  unfold wpX_tick
  refine ⟨3, tk_one (mg := mg) pp_0 (N := 1) (by decide) V ?_⟩
  intro C1 T1 F1 K1 rc1 st1 rs1 ti1 ni1 cr1 hc1 nk1 ms1 ei1 us1 dn1 sa1 fi1 lo1 hi1 wa1 ic1 se1 lc1 rm1 w1 q1 vd1 ro1 no1 V1 h1
  refine tk_one (mg := mg) pp_1 (N := 2) (by decide) V1 ?_
  intro C2 T2 F2 K2 rc2 st2 rs2 ti2 ni2 cr2 hc2 nk2 ms2 ei2 us2 dn2 sa2 fi2 lo2 hi2 wa2 ic2 se2 lc2 rm2 w2 q2 vd2 ro2 no2 V2 h2
  refine br_t (by decide) ?_
  unfold wpY_tick
  refine ⟨3, h1 _ 2 (fun a b c d => h2 _ 1 (fun a2 b2 c2 d2 => br_t (by decide) (pr_mk V2)) a b c d) _ _ _ _⟩
end TK
section UD
variable {C T F K rc : Int32} {st rs ti ni cr hc nk ms ei us dn sa fi lo hi wa ic se lc rm w q ih vd ro no mg ou rp ca sg : Nat → Int32} {P : Int32} {p : Nat}
variable {post : SX → Prop} {k : Nat}
theorem xo_up0 (HP : pn_P P p) (e : st p = 0) (h : post (C, T, F, K, rc, upd st p 2, rs, ti, ni, cr, hc, nk, ms, ei, us, dn, sa, fi, lo, hi, wa, ic, se, lc, rm, w, q, ih, vd, ro, no)) : wpX_onUp post (C, T, F, K, rc, st, rs, ti, ni, cr, hc, nk, ms, ei, us, dn, sa, fi, lo, hi, wa, ic, se, lc, rm, w, q, ih, vd, ro, no) P := by
  have pv := pp_v HP
  unfold wpX_onUp
  refine ⟨pv, ?_⟩
  rw [pp_n HP]
  exact br_t e ⟨pv, nm_e h⟩
theorem xo_up1 (HP : pn_P P p) (e : st p = 1) {s : Nat} (hs : q p = nI s) (hs8 : s ≤ 8) (h : post (C, T, F, K, rc, upd st p 6, pn_sp (upd rs p C) p, upd ti p K, upd ni p (ni p + 1), upd cr p (ni p + 1), hc, upd nk p 0, ms, ei, us, dn, sa, fi, lo, hi, pn_4 wa (p * 4) (pn_hi hi p), pn_4 ic (p * 4) (pn_in lo hi p), pn_4 se (p * 4) (pn_g (pn_4 ic (p * 4) (pn_in lo hi p)) (pn_4 wa (p * 4) (pn_hi hi p)) p), lc, rm, pn_aw w q p 1 (ni p + 1) 0 (pn_g (pn_4 ic (p * 4) (pn_in lo hi p)) (pn_4 wa (p * 4) (pn_hi hi p)) p 0) (pn_g (pn_4 ic (p * 4) (pn_in lo hi p)) (pn_4 wa (p * 4) (pn_hi hi p)) p 1) (pn_g (pn_4 ic (p * 4) (pn_in lo hi p)) (pn_4 wa (p * 4) (pn_hi hi p)) p 2) (pn_g (pn_4 ic (p * 4) (pn_in lo hi p)) (pn_4 wa (p * 4) (pn_hi hi p)) p 3), pn_aq q p, ih, vd, ro, no)) : wpX_onUp post (C, T, F, K, rc, st, rs, ti, ni, cr, hc, nk, ms, ei, us, dn, sa, fi, lo, hi, wa, ic, se, lc, rm, w, q, ih, vd, ro, no) P := by
  have pv := pp_v HP
  unfold wpX_onUp
  refine ⟨pv, ?_⟩
  rw [pp_n HP]
  exact br_f (by rw [e]; decide) ⟨pv, br_t e (xa_breq HP hs hs8 h)⟩
theorem op_up (HP : pn_P P p) (V : pn_V st ti lo hi ic q no) : wpX_up (fun r u' => wpY_up (fun r' v' => r' = r ∧ i_Rel k u' v') (C, T, F, K, pn_I st rs ti ni cr hc nk ms ei us dn sa fi, pn_O lo hi wa ic se lc rm, w, q, mg, ou, rp, ca, sg) P) (C, T, F, K, rc, st, rs, ti, ni, cr, hc, nk, ms, ei, us, dn, sa, fi, lo, hi, wa, ic, se, lc, rm, w, q, ih, vd, ro, no) P := by
  obtain ⟨VS, VO, VQ, VN⟩ := V
  have hp := pp_lt HP
  have pv := pp_v HP
  obtain ⟨s, hs9, es, ht⟩ := VS p hp
  obtain ⟨z, hz8, ez⟩ := VQ p hp
  have V : pn_V st ti lo hi ic q no := ⟨VS, VO, VQ, VN⟩
  have g0 := pp_ge0 HP
  have g1 := pp_le1 HP
  have g2 := pp_ng1 HP
  unfold wpX_up
  refine xa_end1 HP (br_f (by decide) ⟨pv, ?_⟩)
  rw [pp_n HP]
  have hcase : s = 0 ∨ s = 1 ∨ 2 ≤ s := by omega
  rcases hcase with rfl | rfl | hs2
  · have e : st p = 0 := es
    refine br_t (by rw [e]; decide) (xo_up0 HP e (xa_setl0 HP (by rw [pn_at]; decide) ?_))
    unfold wpY_up
    refine br_f g0 (br_t g1 ?_)
    unfold wpY_evUp
    refine ya_st HP ?_
    rw [e]
    exact br_t (by decide) (ya_fin0 HP (by decide) ⟨rfl, rfl, pr_mk ⟨pn_VS_u (n := 2) VS rfl (by decide) (fun j ej => pn_ne _ _ ej) (fun _ => pn_at _ _ _), VO, VQ, VN⟩⟩)
  · have e : st p = 1 := es
    refine br_t (by rw [e]; decide) (xo_up1 HP e ez hz8 (xa_setl1 HP (by rw [pn_at]; decide) (by rw [pn_at]; decide) ?_))
    unfold wpY_up
    refine br_f g0 (br_t g1 ?_)
    unfold wpY_evUp
    refine ya_st HP ?_
    rw [e]
    exact br_f (by decide) (br_t (by decide) (ya_start HP (ya_ircC HP (ya_scr HP (pn_VO_in VO) ez hz8 (fun _ => ya_fin1 HP (by decide) (by decide) ⟨rfl, rfl, pr_mk ⟨pn_VS_u (n := 6) VS rfl (by decide) (fun j ej => pn_ne _ _ ej) (fun z => absurd z (by decide)), pn_VO_in VO, pn_VQ_a VQ hp, VN⟩⟩)))))
  · have n0 : ¬ st p = 0 := by rw [es]; exact nI_ne0 (by omega) (by omega)
    have n1 : ¬ st p ≤ 1 := by rw [es]; exact nI_ge (a := 1) (by omega) (by omega)
    have n2 : ¬ st p = 1 := fun zz => n1 (by rw [zz]; decide)
    refine br_f n1 ?_
    unfold wpY_up
    refine br_f g0 (br_t g1 ?_)
    unfold wpY_evUp
    refine ya_st HP ?_
    exact br_f n0 (br_f n2 ⟨rfl, rfl, pr_mk V⟩)
theorem op_down (HP : pn_P P p) (V : pn_V st ti lo hi ic q no) : wpX_down (fun r u' => wpY_down (fun r' v' => r' = r ∧ i_Rel k u' v') (C, T, F, K, pn_I st rs ti ni cr hc nk ms ei us dn sa fi, pn_O lo hi wa ic se lc rm, w, q, mg, ou, rp, ca, sg) P) (C, T, F, K, rc, st, rs, ti, ni, cr, hc, nk, ms, ei, us, dn, sa, fi, lo, hi, wa, ic, se, lc, rm, w, q, ih, vd, ro, no) P := by
  obtain ⟨VS, VO, VQ, VN⟩ := V
  have hp := pp_lt HP
  have pv := pp_v HP
  obtain ⟨s, hs9, es, ht⟩ := VS p hp
  obtain ⟨z, hz8, ez⟩ := VQ p hp
  have V : pn_V st ti lo hi ic q no := ⟨VS, VO, VQ, VN⟩
  have g0 := pp_ge0 HP
  have g1 := pp_le1 HP
  have g2 := pp_ng1 HP
  unfold wpX_down
  refine xa_end1 HP (br_f (by decide) ⟨pv, ?_⟩)
  rw [pp_n HP]
  have hcase : s < 2 ∨ s = 2 ∨ s = 3 ∨ s = 4 ∨ s = 5 ∨ s = 6 ∨ s = 7 ∨ s = 8 ∨ s = 9 := by omega
  rcases hcase with hs2 | rfl | rfl | rfl | rfl | rfl | rfl | rfl | rfl
  · have n1 : ¬ 1 < st p := by rw [es]; exact nI_nlt (a := 1) (by omega) (by decide)
    have n2 : ¬ 2 ≤ st p := by rw [es]; exact nI_ge (b := 2) (by omega) (by decide)
    refine br_f n1 ?_
    unfold wpY_down
    refine br_f g0 (br_t g1 ?_)
    unfold wpY_evDown
    refine ya_st HP ?_
    exact br_f n2 ⟨rfl, rfl, pr_mk V⟩
  · have e : st p = 2 := es
    refine br_t (by rw [e]; decide) ?_
    unfold wpX_onDown
    refine ⟨pv, ?_⟩
    rw [pp_n HP, e]
    refine nm_e (br_f (by decide) (br_f (by decide) (br_t (by decide) ⟨pv, nm_e ?_⟩)))
    refine xa_setl0 HP (by rw [pn_at]; decide) ?_
    unfold wpY_down
    refine br_f g0 (br_t g1 ?_)
    unfold wpY_evDown
    refine ya_st HP ?_
    rw [e]
    refine br_t (by decide) (br_t (by decide) ?_)
    unfold wY_evDown_25
    refine br_f (by decide) (br_f (by decide) ?_)
    unfold wY_evDown_48
    exact (ya_fin0 HP (by decide) ⟨rfl, rfl, pr_mk ⟨pn_VS_u (n := 0) VS rfl (by decide) (fun j ej => pn_ne _ _ ej) (fun _ => pn_at _ _ _), VO, VQ, VN⟩⟩)
  · have e : st p = 3 := es
    refine br_t (by rw [e]; decide) ?_
    unfold wpX_onDown
    refine ⟨pv, ?_⟩
    rw [pp_n HP, e]
    refine nm_e (br_f (by decide) (br_f (by decide) (br_f (by decide) (br_t (by decide) ⟨pv, pv, nm_e ⟨pv, nm_e ?_⟩⟩))))
    refine xa_setl0 HP (by rw [pn_at]; decide) ?_
    unfold wpY_down
    refine br_f g0 (br_t g1 ?_)
    unfold wpY_evDown
    refine ya_st HP ?_
    rw [e]
    refine br_t (by decide) (br_f (by decide) (br_f (by decide) ?_))
    refine br_t (by decide) (ya_tls HP (br_f (by decide) ?_))
    unfold wY_evDown_48
    exact (ya_fin0 HP (by decide) ⟨rfl, rfl, pr_mk ⟨pn_VS_u (n := 1) VS rfl (by decide) (fun j ej => pn_ne _ _ ej) (fun _ => pn_at _ _ _), VO, VQ, VN⟩⟩)
  · have e : st p = 4 := es
    refine br_t (by rw [e]; decide) ?_
    unfold wpX_onDown
    refine ⟨pv, ?_⟩
    rw [pp_n HP, e]
    refine nm_e (br_f (by decide) (br_f (by decide) (br_f (by decide) (br_f (by decide) (br_t (by decide) ⟨pv, nm_e ?_⟩)))))
    refine xa_setl0 HP (by rw [pn_at]; decide) ?_
    unfold wpY_down
    refine br_f g0 (br_t g1 ?_)
    unfold wpY_evDown
    refine ya_st HP ?_
    rw [e]
    refine br_t (by decide) (br_f (by decide) (br_t (by decide) ?_))
    unfold wY_evDown_25
    refine br_f (by decide) (br_f (by decide) ?_)
    unfold wY_evDown_48
    exact (ya_fin0 HP (by decide) ⟨rfl, rfl, pr_mk ⟨pn_VS_u (n := 0) VS rfl (by decide) (fun j ej => pn_ne _ _ ej) (fun _ => pn_at _ _ _), VO, VQ, VN⟩⟩)
  · have e : st p = 5 := es
    refine br_t (by rw [e]; decide) ?_
    unfold wpX_onDown
    refine ⟨pv, ?_⟩
    rw [pp_n HP, e]
    refine nm_e (br_f (by decide) (br_f (by decide) (br_f (by decide) (br_f (by decide) (br_f (by decide) (br_t (by decide) ⟨pv, nm_e ?_⟩))))))
    refine xa_setl0 HP (by rw [pn_at]; decide) ?_
    unfold wpY_down
    refine br_f g0 (br_t g1 ?_)
    unfold wpY_evDown
    refine ya_st HP ?_
    rw [e]
    refine br_t (by decide) (br_f (by decide) (br_f (by decide) ?_))
    refine br_f (by decide) (br_f (by decide) ?_)
    unfold wY_evDown_48
    exact (ya_fin0 HP (by decide) ⟨rfl, rfl, pr_mk ⟨pn_VS_u (n := 1) VS rfl (by decide) (fun j ej => pn_ne _ _ ej) (fun _ => pn_at _ _ _), VO, VQ, VN⟩⟩)
  · have e : st p = 6 := es
    refine br_t (by rw [e]; decide) ?_
    unfold wpX_onDown
    refine ⟨pv, ?_⟩
    rw [pp_n HP, e]
    refine nm_e (br_f (by decide) (br_f (by decide) (br_f (by decide) (br_f (by decide) (br_f (by decide) (br_f (by decide) (br_t (by decide) ⟨pv, nm_e ?_⟩)))))))
    refine xa_setl0 HP (by rw [pn_at]; decide) ?_
    unfold wpY_down
    refine br_f g0 (br_t g1 ?_)
    unfold wpY_evDown
    refine ya_st HP ?_
    rw [e]
    refine br_t (by decide) (br_f (by decide) (br_f (by decide) ?_))
    refine br_f (by decide) (br_f (by decide) ?_)
    unfold wY_evDown_48
    exact (ya_fin0 HP (by decide) ⟨rfl, rfl, pr_mk ⟨pn_VS_u (n := 1) VS rfl (by decide) (fun j ej => pn_ne _ _ ej) (fun _ => pn_at _ _ _), VO, VQ, VN⟩⟩)
  · have e : st p = 7 := es
    refine br_t (by rw [e]; decide) ?_
    unfold wpX_onDown
    refine ⟨pv, ?_⟩
    rw [pp_n HP, e]
    refine nm_e (br_f (by decide) (br_f (by decide) (br_f (by decide) (br_f (by decide) (br_f (by decide) (br_f (by decide) (br_f (by decide) (br_t (by decide) ⟨pv, nm_e ?_⟩))))))))
    refine xa_setl0 HP (by rw [pn_at]; decide) ?_
    unfold wpY_down
    refine br_f g0 (br_t g1 ?_)
    unfold wpY_evDown
    refine ya_st HP ?_
    rw [e]
    refine br_t (by decide) (br_f (by decide) (br_f (by decide) ?_))
    refine br_f (by decide) (br_f (by decide) ?_)
    unfold wY_evDown_48
    exact (ya_fin0 HP (by decide) ⟨rfl, rfl, pr_mk ⟨pn_VS_u (n := 1) VS rfl (by decide) (fun j ej => pn_ne _ _ ej) (fun _ => pn_at _ _ _), VO, VQ, VN⟩⟩)
  · have e : st p = 8 := es
    refine br_t (by rw [e]; decide) ?_
    unfold wpX_onDown
    refine ⟨pv, ?_⟩
    rw [pp_n HP, e]
    refine nm_e (br_f (by decide) (br_f (by decide) (br_f (by decide) (br_f (by decide) (br_f (by decide) (br_f (by decide) (br_f (by decide) (br_f (by decide) (br_t (by decide) ⟨pv, nm_e ?_⟩)))))))))
    refine xa_setl0 HP (by rw [pn_at]; decide) ?_
    unfold wpY_down
    refine br_f g0 (br_t g1 ?_)
    unfold wpY_evDown
    refine ya_st HP ?_
    rw [e]
    refine br_t (by decide) (br_f (by decide) (br_f (by decide) ?_))
    refine br_f (by decide) (br_f (by decide) ?_)
    unfold wY_evDown_48
    exact (ya_fin0 HP (by decide) ⟨rfl, rfl, pr_mk ⟨pn_VS_u (n := 1) VS rfl (by decide) (fun j ej => pn_ne _ _ ej) (fun _ => pn_at _ _ _), VO, VQ, VN⟩⟩)
  · have e : st p = 9 := es
    refine br_t (by rw [e]; decide) ?_
    unfold wpX_onDown
    refine ⟨pv, ?_⟩
    rw [pp_n HP, e]
    refine nm_e (br_f (by decide) (br_f (by decide) (br_f (by decide) (br_f (by decide) (br_f (by decide) (br_f (by decide) (br_f (by decide) (br_f (by decide) (br_f (by decide) (br_t (by decide) ⟨pv, pv, nm_e ⟨pv, nm_e ?_⟩⟩))))))))))
    refine xa_setl0 HP (by rw [pn_at]; decide) ?_
    unfold wpY_down
    refine br_f g0 (br_t g1 ?_)
    unfold wpY_evDown
    refine ya_st HP ?_
    rw [e]
    refine br_t (by decide) (br_f (by decide) (br_f (by decide) ?_))
    refine br_f (by decide) (br_t (by decide) (ya_tld HP ?_))
    unfold wY_evDown_48
    exact (ya_fin0 HP (by decide) ⟨rfl, rfl, pr_mk ⟨pn_VS_u (n := 1) VS rfl (by decide) (fun j ej => pn_ne _ _ ej) (fun _ => pn_at _ _ _), VO, VQ, VN⟩⟩)
theorem op_open (HP : pn_P P p) (V : pn_V st ti lo hi ic q no) : wpX_open (fun r u' => wpY_open (fun r' v' => r' = r ∧ i_Rel k u' v') (C, T, F, K, pn_I st rs ti ni cr hc nk ms ei us dn sa fi, pn_O lo hi wa ic se lc rm, w, q, mg, ou, rp, ca, sg) P) (C, T, F, K, rc, st, rs, ti, ni, cr, hc, nk, ms, ei, us, dn, sa, fi, lo, hi, wa, ic, se, lc, rm, w, q, ih, vd, ro, no) P := by
  have g0 := pp_ge0 HP
  have g1 := pp_le1 HP
  have g2 := pp_ng1 HP
  unfold wpX_open
  refine xa_end1 HP (br_f (by decide) ?_)
  refine ev_open (mg := mg) (ou := ou) (rp := rp) (ca := ca) (sg := sg) HP V ?_
  intro C1 T1 F1 K1 rc1 st1 rs1 ti1 ni1 cr1 hc1 nk1 ms1 ei1 us1 dn1 sa1 fi1 lo1 hi1 wa1 ic1 se1 lc1 rm1 w1 q1 vd1 ro1 no1 V1 hY
  refine xa_setl HP ?_
  unfold wpY_open
  refine br_f g0 (br_t g1 ?_)
  refine hY _ (fun a b c d => ?_)
  exact ⟨rfl, pr_mk V1⟩
theorem op_close (HP : pn_P P p) (V : pn_V st ti lo hi ic q no) : wpX_close (fun r u' => wpY_close (fun r' v' => r' = r ∧ i_Rel k u' v') (C, T, F, K, pn_I st rs ti ni cr hc nk ms ei us dn sa fi, pn_O lo hi wa ic se lc rm, w, q, mg, ou, rp, ca, sg) P) (C, T, F, K, rc, st, rs, ti, ni, cr, hc, nk, ms, ei, us, dn, sa, fi, lo, hi, wa, ic, se, lc, rm, w, q, ih, vd, ro, no) P := by
  have g0 := pp_ge0 HP
  have g1 := pp_le1 HP
  have g2 := pp_ng1 HP
  unfold wpX_close
  refine xa_end1 HP (br_f (by decide) ?_)
  refine ev_close (mg := mg) (ou := ou) (rp := rp) (ca := ca) (sg := sg) HP V ?_
  intro C1 T1 F1 K1 rc1 st1 rs1 ti1 ni1 cr1 hc1 nk1 ms1 ei1 us1 dn1 sa1 fi1 lo1 hi1 wa1 ic1 se1 lc1 rm1 w1 q1 vd1 ro1 no1 V1 hY
  refine xa_setl HP ?_
  unfold wpY_close
  refine br_f g0 (br_t g1 ?_)
  refine hY _ (fun a b c d => ?_)
  exact ⟨rfl, pr_mk V1⟩
theorem op_echo (HP : pn_P P p) (V : pn_V st ti lo hi ic q no) : wpX_echo (fun r u' => wpY_echo (fun r' v' => r' = r ∧ i_Rel k u' v') (C, T, F, K, pn_I st rs ti ni cr hc nk ms ei us dn sa fi, pn_O lo hi wa ic se lc rm, w, q, mg, ou, rp, ca, sg) P) (C, T, F, K, rc, st, rs, ti, ni, cr, hc, nk, ms, ei, us, dn, sa, fi, lo, hi, wa, ic, se, lc, rm, w, q, ih, vd, ro, no) P := by
  obtain ⟨VS, VO, VQ, VN⟩ := V
  have hp := pp_lt HP
  have pv := pp_v HP
  obtain ⟨s, hs9, es, ht⟩ := VS p hp
  obtain ⟨z, hz8, ez⟩ := VQ p hp
  have V : pn_V st ti lo hi ic q no := ⟨VS, VO, VQ, VN⟩
  have g0 := pp_ge0 HP
  have g1 := pp_le1 HP
  have g2 := pp_ng1 HP
  unfold wpX_echo
  refine xa_end1 HP (br_f (by decide) ⟨pv, ?_⟩)
  rw [pp_n HP]
  by_cases c9 : st p = 9
  · refine br_t c9 ⟨pv, ?_⟩
    by_cases c3 : ms p < 3
    · refine br_t c3 ⟨pv, pv, nm_e ⟨pv, pv, ?_⟩⟩
      rw [pn_at]
      refine nm_e ⟨pv, ?_⟩
      rw [pn_at]
      refine xa_app0 HP VN ez hz8 ⟨pv, pv, nm_e ?_⟩
      unfold wpY_echo
      refine br_f g0 (br_f g2 (ya_st HP (br_t c9 ⟨pp_vi7 HP, ?_⟩)))
      rw [pp_i7 HP, pp_i3 HP, pp_i8 HP, pn_I_a7, pn_I_a3, pn_I_u3]
      refine br_t c3 ⟨pp_vi3 HP, pp_vi3 HP, nm_e ⟨pp_vi3 HP, pp_vi8 HP, ?_⟩⟩
      rw [pn_I_a3, pn_at, pn_I_u8]
      refine nm_e ⟨pp_vi8 HP, ?_⟩
      rw [pn_I_a8, pn_at]
      refine ya_out (ya_push HP ez hz8 rfl rfl rfl rfl rfl rfl rfl ⟨pp_vi7 HP, pp_vi7 HP, ?_⟩)
      rw [pn_I_a7, pn_I_u7]
      exact nm_e ⟨rfl, pr_mk ⟨VS, VO, pn_VQ_a VQ hp, VN⟩⟩
    · refine br_f c3 ?_
      unfold wpX_onDown
      refine ⟨pv, ?_⟩
      rw [pp_n HP, c9]
      refine nm_e (br_f (by decide) (br_f (by decide) (br_f (by decide) (br_f (by decide) (br_f (by decide) (br_f (by decide) (br_f (by decide) (br_f (by decide) (br_f (by decide) (br_t (by decide) ⟨pv, pv, nm_e ⟨pv, nm_e ?_⟩⟩))))))))))
      refine xo_up1 HP (pn_at _ _ _) ez hz8 ?_
      refine xa_setl1 HP (by rw [pn_at]; decide) (by rw [pn_at]; decide) ⟨pv, nm_e ?_⟩
      unfold wpY_echo
      refine br_f g0 (br_f g2 (ya_st HP (br_t c9 ⟨pp_vi7 HP, ?_⟩)))
      rw [pp_i7 HP, pn_I_a7]
      refine br_f c3 ?_
      unfold wpY_evDown
      refine ya_st HP ?_
      rw [c9]
      refine br_t (by decide) (br_f (by decide) (br_f (by decide) ?_))
      refine br_f (by decide) (br_t (by decide) (ya_tld HP ?_))
      unfold wY_evDown_48
      refine ya_fin0 HP (by decide) ?_
      unfold wpY_evUp
      refine ya_st HP ?_
      rw [pn_at]
      refine br_f (by decide) (br_t (by decide) (ya_start HP (ya_ircC HP (ya_scr HP (pn_VO_in VO) ez hz8 (fun _ => ya_fin1 HP (by decide) (by decide) ⟨pp_vi7 HP, ?_⟩)))))
      rw [pn_I_u7, pn_uu ti p 0 K]
      refine nm_e ⟨rfl, pr_mk ?_⟩
      exact ⟨pn_VS_u (n := 6) (pn_VS_u (n := 1) VS rfl (by decide) (fun j ej => pn_ne _ _ ej) (fun _ => pn_at _ _ _)) rfl (by decide) (fun j ej => by rw [pn_ne _ _ ej, pn_ne _ _ ej]) (fun z => absurd z (by decide)), pn_VO_in VO, pn_VQ_a VQ hp, VN⟩
  · refine br_f c9 ?_
    unfold wpY_echo
    refine br_f g0 (br_f g2 (ya_st HP ?_))
    exact br_f c9 ⟨rfl, pr_mk V⟩
end UD
