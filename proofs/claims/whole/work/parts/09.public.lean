theorem pn_ge2 {x : Int32} {t : Int32} (h : ∃ s : Nat, s ≤ 9 ∧ x = nI s ∧ (s < 4 ∨ 8 < s → t = 0)) (c : ¬ x ≤ 1) : 2 ≤ x := by
  obtain ⟨s, hs, e, _⟩ := h
  rw [e] at c ⊢
  have : ¬ s ≤ 1 := fun z => c (nI_le (b := 1) z (by decide))
  exact nI_le (a := 2) (by omega) (by omega)
theorem pn_43 {o : Int32} (h : 4 ≤ o) : 3 < o := Int32.lt_of_lt_of_le (by decide) h
theorem pn_i4 {o : Int32} : 3 < o ↔ 4 ≤ o := by
  have a : (3 : Int32).toInt = 3 := by decide
  have b : (4 : Int32).toInt = 4 := by decide
  rw [Int32.lt_iff_toInt_lt, Int32.le_iff_toInt_le, a, b]
  omega
theorem pn_34 {o : Int32} (h : ¬ 4 ≤ o) : ¬ 3 < o := fun z => h (pn_i4.mp z)
theorem pn_i7 {o : Int32} : o < 7 ↔ o ≤ 6 := by
  have a : (7 : Int32).toInt = 7 := by decide
  have b : (6 : Int32).toInt = 6 := by decide
  rw [Int32.lt_iff_toInt_lt, Int32.le_iff_toInt_le, a, b]
  omega
theorem pn_76 {o : Int32} (h : o < 7) : o ≤ 6 := pn_i7.mp h
theorem pn_67 {o : Int32} (h : ¬ o < 7) : ¬ o ≤ 6 := fun z => h (pn_i7.mpr z)
theorem pn_VQ_d {q : Nat → Int32} {p s : Nat} (V : pn_VQ q) (hs : s ≤ 8) : pn_VQ (upd q p (nI s)) := by
  intro j hj
  by_cases e : j = p
  · exact ⟨s, hs, by rw [e, pn_at]⟩
  · rw [pn_ne _ _ e]; exact V j hj
theorem pn_VO_r {lo hi ic : Nat → Int32} {i : Nat} {a b : Int32} (V : pn_VO lo hi ic) (ha : 0 ≤ a) (hb : 0 ≤ b ∧ b ≤ 65535) : pn_VO (upd lo i a) (upd hi i b) ic := by
  intro j hj
  refine ⟨?_, (V j hj).2⟩
  by_cases e : j = i
  · rw [e, pn_at, pn_at]; exact ⟨ha, hb.1, hb.2⟩
  · rw [pn_ne _ _ e, pn_ne _ _ e]; exact (V j hj).1
theorem pn_cl_r (v : Int32) : 0 ≤ pn_cl v 0 65535 ∧ pn_cl v 0 65535 ≤ 65535 := by
  unfold pn_cl
  by_cases h1 : 0 ≤ v
  · rw [if_pos h1]
    by_cases h2 : v ≤ 65535
    · rw [if_pos h2]; exact ⟨h1, h2⟩
    · rw [if_neg h2]; decide
  · rw [if_neg h1]; decide
section PB
variable {C T F K rc : Int32} {st rs ti ni cr hc nk ms ei us dn sa fi lo hi wa ic se lc rm w q ih vd ro no mg ou rp ca sg : Nat → Int32} {P : Int32} {p : Nat}
variable {post1 : Int32 → Prop} {post2 : SY → Prop} {k : Nat}
theorem xa_has1 (HP : pn_P P p) {s : Nat} (hs : q p = nI (s + 1)) (hs8 : s + 1 ≤ 8) (h : post1 1) : wpX_hasMessage post1 (C, T, F, K, rc, st, rs, ti, ni, cr, hc, nk, ms, ei, us, dn, sa, fi, lo, hi, wa, ic, se, lc, rm, w, q, ih, vd, ro, no) P := by
  unfold wpX_hasMessage
  refine xa_end1 HP (br_f (by decide) ⟨pp_v HP, ?_⟩)
  rw [pp_n HP, hs]
  exact br_f (nI_nle (by omega) (by omega)) h
theorem xa_has0 (HP : pn_P P p) (hs : q p = nI 0) (h : post1 0) : wpX_hasMessage post1 (C, T, F, K, rc, st, rs, ti, ni, cr, hc, nk, ms, ei, us, dn, sa, fi, lo, hi, wa, ic, se, lc, rm, w, q, ih, vd, ro, no) P := by
  unfold wpX_hasMessage
  refine xa_end1 HP (br_f (by decide) ⟨pp_v HP, ?_⟩)
  rw [pp_n HP, hs]
  exact br_t (by decide) h
theorem xa_hasE {v : Int32} (h0 : ¬ v = 0) (h1 : ¬ v = 1) (h : post1 0) : wpX_hasMessage post1 (C, T, F, K, rc, st, rs, ti, ni, cr, hc, nk, ms, ei, us, dn, sa, fi, lo, hi, wa, ic, se, lc, rm, w, q, ih, vd, ro, no) v := by
  unfold wpX_hasMessage
  exact xa_end0 h0 h1 (br_t rfl h)
theorem op_drop (HP : pn_P P p) (V : pn_V st ti lo hi ic q no) : wpX_drop (fun r u' => wpY_drop (fun r' v' => r' = r ∧ i_Rel k u' v') (C, T, F, K, pn_I st rs ti ni cr hc nk ms ei us dn sa fi, pn_O lo hi wa ic se lc rm, w, q, mg, ou, rp, ca, sg) P) (C, T, F, K, rc, st, rs, ti, ni, cr, hc, nk, ms, ei, us, dn, sa, fi, lo, hi, wa, ic, se, lc, rm, w, q, ih, vd, ro, no) P := by
  obtain ⟨VS, VO, VQ, VN⟩ := V
  have hp := pp_lt HP
  have pv := pp_v HP
  obtain ⟨z, hz8, ez⟩ := VQ p hp
  have V : pn_V st ti lo hi ic q no := ⟨VS, VO, VQ, VN⟩
  have g0 := pp_ge0 HP
  have g1 := pp_le1 HP
  have g2 := pp_ng1 HP
  have hcase : z = 0 ∨ ∃ s, z = s + 1 := by
    rcases Nat.eq_zero_or_pos z with h | h
    · exact Or.inl h
    · exact Or.inr ⟨z - 1, by omega⟩
  unfold wpX_drop
  rcases hcase with rfl | ⟨s, rfl⟩
  · refine xa_has0 HP ez (br_t rfl ?_)
    unfold wpY_drop
    refine br_f g0 (br_f g2 ⟨pv, ?_⟩)
    rw [pp_n HP, ez]
    exact br_t rfl ⟨rfl, pr_mk V⟩
  · refine xa_has1 HP ez hz8 (br_f (by decide) (xa_take HP ez hz8 ?_))
    unfold wpY_drop
    refine br_f g0 (br_f g2 ⟨pv, ?_⟩)
    rw [pp_n HP]
    exact br_f (by rw [ez]; exact nI_ne0 (by omega) (by omega)) (ya_pop HP ez hz8 ⟨rfl, pr_mk ⟨VS, VO, pn_VQ_d VQ (by omega), VN⟩⟩)
theorem op_rotate (HP : pn_P P p) (V : pn_V st ti lo hi ic q no) : wpX_rotate (fun r u' => wpY_rotate (fun r' v' => r' = r ∧ i_Rel k u' v') (C, T, F, K, pn_I st rs ti ni cr hc nk ms ei us dn sa fi, pn_O lo hi wa ic se lc rm, w, q, mg, ou, rp, ca, sg) P) (C, T, F, K, rc, st, rs, ti, ni, cr, hc, nk, ms, ei, us, dn, sa, fi, lo, hi, wa, ic, se, lc, rm, w, q, ih, vd, ro, no) P := by
  obtain ⟨VS, VO, VQ, VN⟩ := V
  have hp := pp_lt HP
  have pv := pp_v HP
  obtain ⟨z, hz8, ez⟩ := VQ p hp
  have V : pn_V st ti lo hi ic q no := ⟨VS, VO, VQ, VN⟩
  have g0 := pp_ge0 HP
  have g1 := pp_le1 HP
  have g2 := pp_ng1 HP
  have hcase : z = 0 ∨ ∃ s, z = s + 1 := by
    rcases Nat.eq_zero_or_pos z with h | h
    · exact Or.inl h
    · exact Or.inr ⟨z - 1, by omega⟩
  unfold wpX_rotate
  rcases hcase with rfl | ⟨s, rfl⟩
  · refine xa_has0 HP ez (br_t rfl ?_)
    unfold wpY_rotate
    refine br_f g0 (br_f g2 ⟨pv, ?_⟩)
    rw [pp_n HP, ez]
    exact br_t rfl ⟨rfl, pr_mk V⟩
  · have s8 : s ≤ 8 := by omega
    have eq2 : upd q p (nI s) p = nI s := pn_at _ _ _
    refine xa_has1 HP ez hz8 (br_f (by decide) (xa_take HP ez hz8 (xa_app_ih HP eq2 s8 ?_)))
    unfold wpY_rotate
    refine br_f g0 (br_f g2 ⟨pv, ?_⟩)
    rw [pp_n HP]
    exact br_f (by rw [ez]; exact nI_ne0 (by omega) (by omega)) (ya_pop HP ez hz8 (ya_push HP eq2 s8 rfl rfl rfl rfl rfl rfl rfl ⟨rfl, pr_mk ⟨VS, VO, pn_VQ_a (pn_VQ_d VQ s8) hp, VN⟩⟩))
theorem ys_dl {post3 : Int32 → SY → Prop} {n j : Nat} (hj : j < 7) (h : wY_deliver_27 post3 P C T F K n (nI (j + 1)) (pn_I st rs ti ni cr hc nk ms ei us dn sa fi) (pn_O lo hi wa ic se lc rm) w q (upd mg j (ou j)) ou rp ca sg) : wY_deliver_27 post3 P C T F K (n + 1) (nI j) (pn_I st rs ti ni cr hc nk ms ei us dn sa fi) (pn_O lo hi wa ic se lc rm) w q mg ou rp ca sg := by
  refine br_f (pp_g7 hj) ?_
  rw [nI_clamp (n := j) (by omega)]
  exact ⟨vp_in_nI hj (by decide), vp_in_nI hj (by decide), nm_e (nm_r (nI_1 j) h)⟩
theorem ya_dl {post3 : Int32 → SY → Prop} {R : Int32} (eR : 1 - P = R) (h : wpY_receive (fun u => match u with | (C9, T9, F9, K9, nf9, op9, w9, q9, mg9, ou9, rp9, ca9, sg9) => post3 (mg9 0) (C9, T9, F9, K9, nf9, op9, w9, q9, mg9, ou9, rp9, ca9, sg9)) (C, T, F, K, pn_I st rs ti ni cr hc nk ms ei us dn sa fi, pn_O lo hi wa ic se lc rm, w, q, pn_l7 mg ou, ou, rp, ca, sg) R) : ∃ n, wY_deliver_27 post3 P C T F K n 0 (pn_I st rs ti ni cr hc nk ms ei us dn sa fi) (pn_O lo hi wa ic se lc rm) w q mg ou rp ca sg := by
  refine ⟨8, ys_dl (j := 0) (by decide) (ys_dl (j := 1) (by decide) (ys_dl (j := 2) (by decide) (ys_dl (j := 3) (by decide) (ys_dl (j := 4) (by decide) (ys_dl (j := 5) (by decide) (ys_dl (j := 6) (by decide) (br_t pp_77 ?_)))))))⟩
  rw [eR]
  exact h
theorem op_deliver {R : Int32} {r : Nat} (HP : pn_P P p) (HR : pn_P R r) (eR : 1 - P = R) (V : pn_V st ti lo hi ic q no) : wpX_deliver (fun r u' => wpY_deliver (fun r' v' => r' = r ∧ i_Rel k u' v') (C, T, F, K, pn_I st rs ti ni cr hc nk ms ei us dn sa fi, pn_O lo hi wa ic se lc rm, w, q, mg, ou, rp, ca, sg) P) (C, T, F, K, rc, st, rs, ti, ni, cr, hc, nk, ms, ei, us, dn, sa, fi, lo, hi, wa, ic, se, lc, rm, w, q, ih, vd, ro, no) P := by
  obtain ⟨VS, VO, VQ, VN⟩ := V
  have hp := pp_lt HP
  have pv := pp_v HP
  obtain ⟨z, hz8, ez⟩ := VQ p hp
  have V : pn_V st ti lo hi ic q no := ⟨VS, VO, VQ, VN⟩
  have g0 := pp_ge0 HP
  have g1 := pp_le1 HP
  have g2 := pp_ng1 HP
  have hcase : z = 0 ∨ ∃ s, z = s + 1 := by
    rcases Nat.eq_zero_or_pos z with h | h
    · exact Or.inl h
    · exact Or.inr ⟨z - 1, by omega⟩
  unfold wpX_deliver
  rcases hcase with rfl | ⟨s, rfl⟩
  · refine xa_has0 HP ez (br_t rfl ?_)
    unfold wpY_deliver
    refine br_f g0 (br_f g2 ⟨pv, ?_⟩)
    rw [pp_n HP, ez]
    exact br_t rfl ⟨rfl, pr_mk V⟩
  · have V2 : pn_V st ti lo hi ic (upd q p (nI s)) no := ⟨VS, VO, pn_VQ_d VQ (by omega), VN⟩
    have hM : ∀ f, f < 7 → pn_l7 ih (fun f => w (p * 56 + f)) f = (fun f => w (p * 56 + f)) f := fun f hf => pn_l7_at _ _ hf
    have hN : ∀ f, f < 7 → (pn_l7 mg (pn_l7 ou (fun f => w (p * 56 + f)))) f = (fun f => w (p * 56 + f)) f := fun f hf => (pn_l7_at _ _ hf).trans (pn_l7_at _ _ hf)
    refine xa_has1 HP ez hz8 (br_f (by decide) (xa_take HP ez hz8 ?_))
    refine nm_r eR ⟨pp_v HR, ?_⟩
    rw [pp_n HR]
    by_cases c1 : st r ≤ 1
    · refine br_t c1 ?_
      unfold wpY_deliver
      refine br_f g0 (br_f g2 ⟨pv, ?_⟩)
      rw [pp_n HP]
      refine br_f (by rw [ez]; exact nI_ne0 (by omega) (by omega)) (ya_pop HP ez hz8 (ya_dl eR ?_))
      unfold wpY_receive
      refine ya_st HR ?_
      exact br_f (fun zz => absurd (Int32.le_trans zz c1) (by decide)) ⟨rfl, pr_mk V2⟩
    · have h2s : 2 ≤ st r := pn_ge2 (VS r (pp_lt HR)) c1
      refine br_f c1 (rv_all (ou := pn_l7 ou (fun f => w (p * 56 + f))) (rp := rp) (ca := ca) (sg := sg) HR V2 hM hN h2s ?_)
      intro C1 T1 F1 K1 rc1 st1 rs1 ti1 ni1 cr1 hc1 nk1 ms1 ei1 us1 dn1 sa1 fi1 lo1 hi1 wa1 ic1 se1 lc1 rm1 w1 q1 vd1 ro1 no1 V1 hY
      refine xa_setl HR ?_
      unfold wpY_deliver
      refine br_f g0 (br_f g2 ⟨pv, ?_⟩)
      rw [pp_n HP]
      refine br_f (by rw [ez]; exact nI_ne0 (by omega) (by omega)) (ya_pop HP ez hz8 (ya_dl eR ?_))
      refine hY _ (fun a b c d => ?_)
      exact ⟨rfl, pr_mk V1⟩
theorem xs_dup {post3 : Int32 → SX → Prop} {n b t j : Nat} {v : Int32} (hb : b ≤ 105) (htl : t ≤ 105) (hv : w (b + j) = v) (hj : j < 7) (h : wX_duplicate_44 post3 P (nI b) (nI t) C T F K rc n (nI (j + 1)) st rs ti ni cr hc nk ms ei us dn sa fi lo hi wa ic se lc rm (upd w (t + j) v) q ih vd ro no) : wX_duplicate_44 post3 P (nI b) (nI t) C T F K rc (n + 1) (nI j) st rs ti ni cr hc nk ms ei us dn sa fi lo hi wa ic se lc rm w q ih vd ro no := by
  refine br_f (pp_g7 hj) ?_
  rw [pp_bk hb hj, pp_bk htl hj, hv]
  exact ⟨pp_vbk hb hj, pp_vbk htl hj, nm_e (nm_r (nI_1 j) h)⟩
theorem ys_dup {post3 : Int32 → SY → Prop} (HP : pn_P P p) {n j : Nat} (hj : j < 7) (h : wY_duplicate_33 post3 P C T F K n (nI (j + 1)) (pn_I st rs ti ni cr hc nk ms ei us dn sa fi) (pn_O lo hi wa ic se lc rm) w q mg (upd ou j (w (p * 56 + j))) rp ca sg) : wY_duplicate_33 post3 P C T F K (n + 1) (nI j) (pn_I st rs ti ni cr hc nk ms ei us dn sa fi) (pn_O lo hi wa ic se lc rm) w q mg ou rp ca sg := by
  have hb : p * 56 ≤ 105 := by have := pp_lt HP; omega
  refine br_f (pp_g7 hj) ?_
  rw [pp_y0 HP, pp_bk hb hj, nI_clamp (n := j) (by omega)]
  exact ⟨pp_vbk hb hj, vp_in_nI hj (by decide), nm_e (nm_r (nI_1 j) h)⟩
theorem op_duplicate (HP : pn_P P p) (V : pn_V st ti lo hi ic q no) : wpX_duplicate (fun r u' => wpY_duplicate (fun r' v' => r' = r ∧ i_Rel k u' v') (C, T, F, K, pn_I st rs ti ni cr hc nk ms ei us dn sa fi, pn_O lo hi wa ic se lc rm, w, q, mg, ou, rp, ca, sg) P) (C, T, F, K, rc, st, rs, ti, ni, cr, hc, nk, ms, ei, us, dn, sa, fi, lo, hi, wa, ic, se, lc, rm, w, q, ih, vd, ro, no) P := by
  obtain ⟨VS, VO, VQ, VN⟩ := V
  have hp := pp_lt HP
  have pv := pp_v HP
  obtain ⟨z, hz8, ez⟩ := VQ p hp
  have V : pn_V st ti lo hi ic q no := ⟨VS, VO, VQ, VN⟩
  have g0 := pp_ge0 HP
  have g1 := pp_le1 HP
  have g2 := pp_ng1 HP
  have hcase : z = 0 ∨ ∃ s, z = s + 1 := by
    rcases Nat.eq_zero_or_pos z with h | h
    · exact Or.inl h
    · exact Or.inr ⟨z - 1, by omega⟩
  unfold wpX_duplicate
  rcases hcase with rfl | ⟨s, rfl⟩
  · refine xa_has0 HP ez (br_t rfl ?_)
    unfold wpY_duplicate
    refine br_f g0 (br_f g2 ⟨pv, ?_⟩)
    rw [pp_n HP, ez]
    exact br_t rfl ⟨rfl, pr_mk V⟩
  · refine xa_has1 HP ez hz8 (br_f (by decide) ⟨pv, ?_⟩)
    rw [pp_n HP, ez]
    by_cases h8 : s + 1 < 8
    · have hb : p * 56 ≤ 105 := by omega
      have htl : p * 56 + (s + 1) * 7 ≤ 105 := by omega
      refine br_t (nI_lt (b := 8) h8 (by decide)) (nm_r (pp_b0 HP) ⟨pv, ?_⟩)
      rw [show nI (s + 1) * 7 = nI ((s + 1) * 7) from pn_mul _ 7]
      refine nm_r (nI_add _ _) ⟨8, ?_⟩
      have HY : ∀ post3 : Int32 → SY → Prop, (∀ ou', post3 1 (C, T, F, K, pn_I st rs ti ni cr hc nk ms ei us dn sa fi, pn_O lo hi wa ic se lc rm, pn_aw w q p (w (p * 56 + 0)) (w (p * 56 + 1)) (w (p * 56 + 2)) (w (p * 56 + 3)) (w (p * 56 + 4)) (w (p * 56 + 5)) (w (p * 56 + 6)), pn_aq q p, mg, ou', rp, ca, sg)) → wpY_duplicate post3 (C, T, F, K, pn_I st rs ti ni cr hc nk ms ei us dn sa fi, pn_O lo hi wa ic se lc rm, w, q, mg, ou, rp, ca, sg) P := by
        intro post3 h3
        unfold wpY_duplicate
        refine br_f g0 (br_f g2 ⟨pv, ?_⟩)
        rw [pp_n HP]
        refine br_f (by rw [ez]; exact nI_ne0 (by omega) (by omega)) ⟨pv, br_t (by rw [ez]; exact nI_lt (b := 8) h8 (by decide)) ⟨8, ?_⟩⟩
        refine ys_dup HP (j := 0) (by decide) (ys_dup HP (j := 1) (by decide) (ys_dup HP (j := 2) (by decide) (ys_dup HP (j := 3) (by decide) (ys_dup HP (j := 4) (by decide) (ys_dup HP (j := 5) (by decide) (ys_dup HP (j := 6) (by decide) (br_t pp_77 ?_)))))))
        exact ya_push HP ez hz8 rfl rfl rfl rfl rfl rfl rfl (h3 _)
      rw [pn_aw_lt ez h8, pn_aq_lt ez h8] at HY
      refine xs_dup hb htl (j := 0) (v := w (p * 56 + 0)) ?_ (by decide) (xs_dup hb htl (j := 1) (v := w (p * 56 + 1)) ?_ (by decide) (xs_dup hb htl (j := 2) (v := w (p * 56 + 2)) ?_ (by decide) (xs_dup hb htl (j := 3) (v := w (p * 56 + 3)) ?_ (by decide) (xs_dup hb htl (j := 4) (v := w (p * 56 + 4)) ?_ (by decide) (xs_dup hb htl (j := 5) (v := w (p * 56 + 5)) ?_ (by decide) (xs_dup hb htl (j := 6) (v := w (p * 56 + 6)) ?_ (by decide) (br_t pp_77 ⟨pv, pv, ?_⟩)))))))
      · rfl
      · rw [pn_ne _ _ (by omega)]
      · rw [pn_ne _ _ (by omega), pn_ne _ _ (by omega)]
      · rw [pn_ne _ _ (by omega), pn_ne _ _ (by omega), pn_ne _ _ (by omega)]
      · rw [pn_ne _ _ (by omega), pn_ne _ _ (by omega), pn_ne _ _ (by omega), pn_ne _ _ (by omega)]
      · rw [pn_ne _ _ (by omega), pn_ne _ _ (by omega), pn_ne _ _ (by omega), pn_ne _ _ (by omega), pn_ne _ _ (by omega)]
      · rw [pn_ne _ _ (by omega), pn_ne _ _ (by omega), pn_ne _ _ (by omega), pn_ne _ _ (by omega), pn_ne _ _ (by omega), pn_ne _ _ (by omega)]
      rw [pp_n HP]
      refine nm_e (HY _ (fun ou' => ⟨rfl, pr_mk ⟨VS, VO, ?_, VN⟩⟩))
      rw [← pn_aq_lt ez h8]
      exact pn_VQ_a VQ hp
    · have n8 : ¬ nI (s + 1) < 8 := pn_n8 h8 hz8
      refine br_f n8 ?_
      unfold wpY_duplicate
      refine br_f g0 (br_f g2 ⟨pv, ?_⟩)
      rw [pp_n HP, ez]
      exact br_f (nI_ne0 (by omega) (by omega)) ⟨pv, br_f n8 ⟨rfl, pr_mk V⟩⟩
theorem op_inj_ok (HP : pn_P P p) (V : pn_V st ti lo hi ic q no) {c d : Int32} (n9 : ¬ c = 9) (n10 : ¬ c = 10) (hc6 : c < 1 ∨ (¬ c < 1 ∧ ¬ c ≤ 6)) : vp_in P 2 ∧ ((q P.toNatClampNeg < 8 → wpX_append__noOptions (fun u => (fun r u' => wpY_inject (fun r' v' => r' = r ∧ i_Rel k u' v') (C, T, F, K, pn_I st rs ti ni cr hc nk ms ei us dn sa fi, pn_O lo hi wa ic se lc rm, w, q, mg, ou, rp, ca, sg) P c d) 1 u) (C, T, F, K, rc, st, rs, ti, ni, cr, hc, nk, ms, ei, us, dn, sa, fi, lo, hi, wa, ic, se, lc, rm, w, q, ih, vd, ro, no) P c 0 d 0) ∧ (¬ q P.toNatClampNeg < 8 → (fun r u' => wpY_inject (fun r' v' => r' = r ∧ i_Rel k u' v') (C, T, F, K, pn_I st rs ti ni cr hc nk ms ei us dn sa fi, pn_O lo hi wa ic se lc rm, w, q, mg, ou, rp, ca, sg) P c d) 0 (C, T, F, K, rc, st, rs, ti, ni, cr, hc, nk, ms, ei, us, dn, sa, fi, lo, hi, wa, ic, se, lc, rm, w, q, ih, vd, ro, no))) := by
  obtain ⟨VS, VO, VQ, VN⟩ := V
  have hp := pp_lt HP
  have pv := pp_v HP
  obtain ⟨z, hz8, ez⟩ := VQ p hp
  have V : pn_V st ti lo hi ic q no := ⟨VS, VO, VQ, VN⟩
  have g0 := pp_ge0 HP
  have g1 := pp_le1 HP
  have g2 := pp_ng1 HP
  refine ⟨pv, ?_⟩
  rw [pp_n HP]
  have HY : ∀ post3 : Int32 → SY → Prop, wY_inject_22 post3 P c d C T F K (pn_I st rs ti ni cr hc nk ms ei us dn sa fi) (pn_O lo hi wa ic se lc rm) w q mg ou rp ca sg → wpY_inject post3 (C, T, F, K, pn_I st rs ti ni cr hc nk ms ei us dn sa fi, pn_O lo hi wa ic se lc rm, w, q, mg, ou, rp, ca, sg) P c d := by
    intro post3 h3
    unfold wpY_inject
    rcases hc6 with a | ⟨a, b⟩
    · exact br_f g0 (br_t g1 (br_t a h3))
    · exact br_f g0 (br_t g1 (br_f a (br_f b h3)))
  refine br_c (fun h8 => ?_) (fun h8 => ?_)
  · refine xa_app0 HP VN ez hz8 ?_
    refine HY _ ?_
    unfold wY_inject_22
    refine br_f n9 (br_f n10 ⟨pv, ?_⟩)
    rw [pp_n HP]
    exact br_t h8 (ya_out (ya_push HP ez hz8 rfl rfl rfl rfl rfl rfl rfl ⟨rfl, pr_mk ⟨VS, VO, pn_VQ_a VQ hp, VN⟩⟩))
  · refine HY _ ?_
    unfold wY_inject_22
    refine br_f n9 (br_f n10 ⟨pv, ?_⟩)
    rw [pp_n HP]
    exact br_f h8 ⟨rfl, pr_mk V⟩
theorem op_inject (HP : pn_P P p) (V : pn_V st ti lo hi ic q no) (c d : Int32) : wpX_inject (fun r u' => wpY_inject (fun r' v' => r' = r ∧ i_Rel k u' v') (C, T, F, K, pn_I st rs ti ni cr hc nk ms ei us dn sa fi, pn_O lo hi wa ic se lc rm, w, q, mg, ou, rp, ca, sg) P c d) (C, T, F, K, rc, st, rs, ti, ni, cr, hc, nk, ms, ei, us, dn, sa, fi, lo, hi, wa, ic, se, lc, rm, w, q, ih, vd, ro, no) P c d := by
  have g0 := pp_ge0 HP
  have g1 := pp_le1 HP
  have g2 := pp_ng1 HP
  unfold wpX_inject
  refine xa_end1 HP (br_f (by decide) ?_)
  unfold wpX_isPeersOwnCode wX_isPeersOwnCode_11
  by_cases c1 : c < 1
  · have n9 : ¬ c = 9 := by intro zz; rw [zz] at c1; revert c1; decide
    have n10 : ¬ c = 10 := by intro zz; rw [zz] at c1; revert c1; decide
    exact br_t c1 (br_f n9 (br_f n10 (br_t rfl (op_inj_ok HP V n9 n10 (Or.inl c1)))))
  · by_cases c6 : c ≤ 6
    · refine br_f c1 (br_t c6 (br_f (by decide) ?_))
      unfold wpY_inject
      exact br_f g0 (br_t g1 (br_f c1 (br_t c6 ⟨rfl, pr_mk V⟩)))
    · by_cases c9 : c = 9
      · refine br_f c1 (br_f c6 (br_t c9 (br_f (by decide) ?_)))
        unfold wpY_inject wY_inject_22
        exact br_f g0 (br_t g1 (br_f c1 (br_f c6 (br_t c9 ⟨rfl, pr_mk V⟩))))
      · by_cases c10 : c = 10
        · refine br_f c1 (br_f c6 (br_f c9 (br_t c10 (br_f (by decide) ?_))))
          unfold wpY_inject wY_inject_22
          exact br_f g0 (br_t g1 (br_f c1 (br_f c6 (br_f c9 (br_t c10 ⟨rfl, pr_mk V⟩)))))
        · exact br_f c1 (br_f c6 (br_f c9 (br_f c10 (br_t rfl (op_inj_ok HP V c9 c10 (Or.inr ⟨c1, c6⟩))))))
theorem pp_iv {j : Nat} (HP : pn_P P p) (hj : j < 13) : ((P * 13) + nI j).toNatClampNeg = p * 13 + j ∧ vp_in ((P * 13) + nI j) 26 := by
  have hp := pp_lt HP
  have e : P * 13 = nI (p * 13) := by rcases HP with ⟨rfl, rfl⟩ | ⟨rfl, rfl⟩ <;> decide
  rw [e, nI_add]
  exact ⟨nI_clamp (by omega), vp_in_nI (by omega) (by decide)⟩
theorem op_peerInfo (HP : pn_P P p) (V : pn_V st ti lo hi ic q no) (v : Int32) : wpX_peerInfo (fun r => wpY_peerInfo (fun r' => r' = r ∧ i_Rel k (C, T, F, K, rc, st, rs, ti, ni, cr, hc, nk, ms, ei, us, dn, sa, fi, lo, hi, wa, ic, se, lc, rm, w, q, ih, vd, ro, no) (C, T, F, K, pn_I st rs ti ni cr hc nk ms ei us dn sa fi, pn_O lo hi wa ic se lc rm, w, q, mg, ou, rp, ca, sg)) (C, T, F, K, pn_I st rs ti ni cr hc nk ms ei us dn sa fi, pn_O lo hi wa ic se lc rm, w, q, mg, ou, rp, ca, sg) P v) (C, T, F, K, rc, st, rs, ti, ni, cr, hc, nk, ms, ei, us, dn, sa, fi, lo, hi, wa, ic, se, lc, rm, w, q, ih, vd, ro, no) P v := by
  have pv := pp_v HP
  have g0 := pp_ge0 HP
  have g1 := pp_le1 HP
  have g2 := pp_ng1 HP
  unfold wpX_peerInfo
  refine xa_end1 HP (br_f (by decide) ?_)
  rw [pp_n HP]
  by_cases v0 : v < 0
  · refine br_t v0 ?_
    unfold wpY_peerInfo
    exact br_f g0 (br_f g2 (br_t v0 ⟨rfl, pr_mk V⟩))
  by_cases v12 : 12 < v
  · refine br_f v0 (br_t v12 ?_)
    unfold wpY_peerInfo
    exact br_f g0 (br_f g2 (br_f v0 (br_f (Int32.not_le.mpr v12) ⟨rfl, pr_mk V⟩)))
  obtain ⟨j, hj, rfl⟩ := nI_of2 (M := 12) (n := 12) (by decide) v0 (Int32.not_lt.mp v12)
  have HY : ∀ a : Int32, pn_I st rs ti ni cr hc nk ms ei us dn sa fi (p * 13 + j) = a → wpY_peerInfo (fun r' => r' = a ∧ i_Rel k (C, T, F, K, rc, st, rs, ti, ni, cr, hc, nk, ms, ei, us, dn, sa, fi, lo, hi, wa, ic, se, lc, rm, w, q, ih, vd, ro, no) (C, T, F, K, pn_I st rs ti ni cr hc nk ms ei us dn sa fi, pn_O lo hi wa ic se lc rm, w, q, mg, ou, rp, ca, sg)) (C, T, F, K, pn_I st rs ti ni cr hc nk ms ei us dn sa fi, pn_O lo hi wa ic se lc rm, w, q, mg, ou, rp, ca, sg) P (nI j) := by
    intro a ea
    unfold wpY_peerInfo
    obtain ⟨e1, e2⟩ := pp_iv HP (j := j) (by omega)
    refine br_f g0 (br_f g2 (br_f v0 (br_t (Int32.not_lt.mp v12) ⟨e2, ?_⟩)))
    rw [e1]
    exact ⟨ea, pr_mk V⟩
  refine br_f v0 (br_f v12 ?_)
  have hc : j = 0 ∨ j = 1 ∨ j = 2 ∨ j = 3 ∨ j = 4 ∨ j = 5 ∨ j = 6 ∨ j = 7 ∨ j = 8 ∨ j = 9 ∨ j = 10 ∨ j = 11 ∨ j = 12 := by omega
  rcases hc with rfl | rfl | rfl | rfl | rfl | rfl | rfl | rfl | rfl | rfl | rfl | rfl | rfl
  · exact br_t (by decide) ⟨pv, HY _ (pn_I_a0 st rs ti ni cr hc nk ms ei us dn sa fi p)⟩
  · exact br_f (by decide) (br_t (by decide) ⟨pv, HY _ (pn_I_a1 st rs ti ni cr hc nk ms ei us dn sa fi p)⟩)
  · exact br_f (by decide) (br_f (by decide) (br_t (by decide) ⟨pv, HY _ (pn_I_a2 st rs ti ni cr hc nk ms ei us dn sa fi p)⟩))
  · exact br_f (by decide) (br_f (by decide) (br_f (by decide) (br_t (by decide) ⟨pv, HY _ (pn_I_a3 st rs ti ni cr hc nk ms ei us dn sa fi p)⟩)))
  · exact br_f (by decide) (br_f (by decide) (br_f (by decide) (br_f (by decide) (br_t (by decide) ⟨pv, HY _ (pn_I_a4 st rs ti ni cr hc nk ms ei us dn sa fi p)⟩))))
  · exact br_f (by decide) (br_f (by decide) (br_f (by decide) (br_f (by decide) (br_f (by decide) (br_t (by decide) ⟨pv, HY _ (pn_I_a5 st rs ti ni cr hc nk ms ei us dn sa fi p)⟩)))))
  · exact br_f (by decide) (br_f (by decide) (br_f (by decide) (br_f (by decide) (br_f (by decide) (br_f (by decide) (br_t (by decide) ⟨pv, HY _ (pn_I_a6 st rs ti ni cr hc nk ms ei us dn sa fi p)⟩))))))
  · exact br_f (by decide) (br_f (by decide) (br_f (by decide) (br_f (by decide) (br_f (by decide) (br_f (by decide) (br_f (by decide) (br_t (by decide) ⟨pv, HY _ (pn_I_a7 st rs ti ni cr hc nk ms ei us dn sa fi p)⟩)))))))
  · exact br_f (by decide) (br_f (by decide) (br_f (by decide) (br_f (by decide) (br_f (by decide) (br_f (by decide) (br_f (by decide) (br_f (by decide) (br_t (by decide) ⟨pv, HY _ (pn_I_a8 st rs ti ni cr hc nk ms ei us dn sa fi p)⟩))))))))
  · exact br_f (by decide) (br_f (by decide) (br_f (by decide) (br_f (by decide) (br_f (by decide) (br_f (by decide) (br_f (by decide) (br_f (by decide) (br_f (by decide) (br_t (by decide) ⟨pv, HY _ (pn_I_a9 st rs ti ni cr hc nk ms ei us dn sa fi p)⟩)))))))))
  · exact br_f (by decide) (br_f (by decide) (br_f (by decide) (br_f (by decide) (br_f (by decide) (br_f (by decide) (br_f (by decide) (br_f (by decide) (br_f (by decide) (br_f (by decide) (br_t (by decide) ⟨pv, HY _ (pn_I_a10 st rs ti ni cr hc nk ms ei us dn sa fi p)⟩))))))))))
  · exact br_f (by decide) (br_f (by decide) (br_f (by decide) (br_f (by decide) (br_f (by decide) (br_f (by decide) (br_f (by decide) (br_f (by decide) (br_f (by decide) (br_f (by decide) (br_f (by decide) (br_t (by decide) ⟨pv, HY _ (pn_I_a11 st rs ti ni cr hc nk ms ei us dn sa fi p)⟩)))))))))))
  · exact br_f (by decide) (br_f (by decide) (br_f (by decide) (br_f (by decide) (br_f (by decide) (br_f (by decide) (br_f (by decide) (br_f (by decide) (br_f (by decide) (br_f (by decide) (br_f (by decide) (br_f (by decide) (br_t (by decide) ⟨pv, HY _ (pn_I_a12 st rs ti ni cr hc nk ms ei us dn sa fi p)⟩))))))))))))
theorem op_optionInfo (HP : pn_P P p) (V : pn_V st ti lo hi ic q no) (o v : Int32) : wpX_optionInfo (fun r => wpY_optionInfo (fun r' => r' = r ∧ i_Rel k (C, T, F, K, rc, st, rs, ti, ni, cr, hc, nk, ms, ei, us, dn, sa, fi, lo, hi, wa, ic, se, lc, rm, w, q, ih, vd, ro, no) (C, T, F, K, pn_I st rs ti ni cr hc nk ms ei us dn sa fi, pn_O lo hi wa ic se lc rm, w, q, mg, ou, rp, ca, sg)) (C, T, F, K, pn_I st rs ti ni cr hc nk ms ei us dn sa fi, pn_O lo hi wa ic se lc rm, w, q, mg, ou, rp, ca, sg) P o v) (C, T, F, K, rc, st, rs, ti, ni, cr, hc, nk, ms, ei, us, dn, sa, fi, lo, hi, wa, ic, se, lc, rm, w, q, ih, vd, ro, no) P o v := by
  have pv := pp_v HP
  have hp := pp_lt HP
  have g0 := pp_ge0 HP
  have g1 := pp_le1 HP
  have g2 := pp_ng1 HP
  unfold wpX_optionInfo
  refine xa_end1 HP (br_f (by decide) ?_)
  unfold wpX_isOption
  by_cases o0 : o < 0
  · refine br_t o0 (br_t rfl ?_)
    unfold wpY_optionInfo
    exact br_f g0 (br_f g2 (br_t o0 ⟨rfl, pr_mk V⟩))
  by_cases o4 : 4 ≤ o
  · refine br_f o0 (br_t o4 (br_t rfl ?_))
    unfold wpY_optionInfo
    exact br_f g0 (br_f g2 (br_f o0 (br_t (pn_43 o4) ⟨rfl, pr_mk V⟩)))
  have o3 : ¬ 3 < o := pn_34 o4
  obtain ⟨i, hi4, rfl⟩ := nI_of2 (M := 3) (n := 3) (by decide) o0 (Int32.not_lt.mp o3)
  have hk : i < 4 := by omega
  refine br_f o0 (br_f o4 (br_f (by decide) ?_))
  intro x4 e4
  have ex : x4.toNatClampNeg = p * 4 + i := by rw [e4, pp_4 HP hk]
  have vx : vp_in x4 8 := by rw [e4]; exact pp_v4 HP hk
  rw [ex]
  by_cases v0 : v < 0
  · refine br_t v0 ?_
    unfold wpY_optionInfo
    exact br_f g0 (br_f g2 (br_f o0 (br_f o3 (br_t v0 ⟨rfl, pr_mk V⟩))))
  by_cases v6 : 6 < v
  · refine br_f v0 (br_t v6 ?_)
    unfold wpY_optionInfo
    exact br_f g0 (br_f g2 (br_f o0 (br_f o3 (br_f v0 (br_f (Int32.not_le.mpr v6) ⟨rfl, pr_mk V⟩)))))
  obtain ⟨j, hj, rfl⟩ := nI_of2 (M := 6) (n := 6) (by decide) v0 (Int32.not_lt.mp v6)
  have HY : ∀ a : Int32, pn_O lo hi wa ic se lc rm ((p * 4 + i) * 7 + j) = a → wpY_optionInfo (fun r' => r' = a ∧ i_Rel k (C, T, F, K, rc, st, rs, ti, ni, cr, hc, nk, ms, ei, us, dn, sa, fi, lo, hi, wa, ic, se, lc, rm, w, q, ih, vd, ro, no) (C, T, F, K, pn_I st rs ti ni cr hc nk ms ei us dn sa fi, pn_O lo hi wa ic se lc rm, w, q, mg, ou, rp, ca, sg)) (C, T, F, K, pn_I st rs ti ni cr hc nk ms ei us dn sa fi, pn_O lo hi wa ic se lc rm, w, q, mg, ou, rp, ca, sg) P (nI i) (nI j) := by
    intro a ea
    unfold wpY_optionInfo
    refine br_f g0 (br_f g2 (br_f o0 (br_f o3 (br_f v0 (br_t (Int32.not_lt.mp v6) ?_)))))
    rw [pp_o HP, nI_add, nI_clamp (n := (p * 4 + i) * 7 + j) (by omega)]
    exact ⟨vp_in_nI (by omega) (by decide), ea, pr_mk V⟩
  refine br_f v0 (br_f v6 ?_)
  have hic := (V.2.1 (p * 4 + i) (by omega)).2
  have hc : j = 0 ∨ j = 1 ∨ j = 2 ∨ j = 3 ∨ j = 4 ∨ j = 5 ∨ j = 6 := by omega
  rcases hc with rfl | rfl | rfl | rfl | rfl | rfl | rfl
  · exact br_t (by decide) ⟨vx, HY _ (pn_O_a0 lo hi wa ic se lc rm (p * 4 + i))⟩
  · exact br_f (by decide) (br_t (by decide) ⟨vx, HY _ (pn_O_a1 lo hi wa ic se lc rm (p * 4 + i))⟩)
  · exact br_f (by decide) (br_f (by decide) (br_t (by decide) ⟨vx, HY _ (pn_O_a2 lo hi wa ic se lc rm (p * 4 + i))⟩))
  · have h3 := pn_O_a3 lo hi wa ic se lc rm (p * 4 + i)
    rcases hic with c | c
    · exact br_f (by decide) (br_f (by decide) (br_f (by decide) (br_t (by decide) ⟨vx, br_t c (HY _ (h3.trans c))⟩)))
    · exact br_f (by decide) (br_f (by decide) (br_f (by decide) (br_t (by decide) ⟨vx, br_f (by rw [c]; decide) (HY _ (h3.trans c))⟩)))
  · exact br_f (by decide) (br_f (by decide) (br_f (by decide) (br_f (by decide) (br_t (by decide) ⟨vx, HY _ (pn_O_a4 lo hi wa ic se lc rm (p * 4 + i))⟩))))
  · exact br_f (by decide) (br_f (by decide) (br_f (by decide) (br_f (by decide) (br_f (by decide) (br_t (by decide) ⟨vx, HY _ (pn_O_a5 lo hi wa ic se lc rm (p * 4 + i))⟩)))))
  · exact br_f (by decide) (br_f (by decide) (br_f (by decide) (br_f (by decide) (br_f (by decide) (br_f (by decide) (br_t (by decide) ⟨vx, HY _ (pn_O_a6 lo hi wa ic se lc rm (p * 4 + i))⟩))))))
theorem op_wireSize (HP : pn_P P p) (V : pn_V st ti lo hi ic q no) : wpX_wireSize (fun r => wpY_wireSize (fun r' => r' = r ∧ i_Rel k (C, T, F, K, rc, st, rs, ti, ni, cr, hc, nk, ms, ei, us, dn, sa, fi, lo, hi, wa, ic, se, lc, rm, w, q, ih, vd, ro, no) (C, T, F, K, pn_I st rs ti ni cr hc nk ms ei us dn sa fi, pn_O lo hi wa ic se lc rm, w, q, mg, ou, rp, ca, sg)) (C, T, F, K, pn_I st rs ti ni cr hc nk ms ei us dn sa fi, pn_O lo hi wa ic se lc rm, w, q, mg, ou, rp, ca, sg) P) (C, T, F, K, rc, st, rs, ti, ni, cr, hc, nk, ms, ei, us, dn, sa, fi, lo, hi, wa, ic, se, lc, rm, w, q, ih, vd, ro, no) P := by
  have pv := pp_v HP
  have g0 := pp_ge0 HP
  have g1 := pp_le1 HP
  have g2 := pp_ng1 HP
  unfold wpX_wireSize
  refine xa_end1 HP (br_f (by decide) ⟨pv, ?_⟩)
  unfold wpY_wireSize
  exact br_f g0 (br_t g1 ⟨pv, rfl, pr_mk V⟩)
theorem op_wireInfo (HP : pn_P P p) (V : pn_V st ti lo hi ic q no) (x f : Int32) : wpX_wireInfo (fun r => wpY_wireInfo (fun r' => r' = r ∧ i_Rel k (C, T, F, K, rc, st, rs, ti, ni, cr, hc, nk, ms, ei, us, dn, sa, fi, lo, hi, wa, ic, se, lc, rm, w, q, ih, vd, ro, no) (C, T, F, K, pn_I st rs ti ni cr hc nk ms ei us dn sa fi, pn_O lo hi wa ic se lc rm, w, q, mg, ou, rp, ca, sg)) (C, T, F, K, pn_I st rs ti ni cr hc nk ms ei us dn sa fi, pn_O lo hi wa ic se lc rm, w, q, mg, ou, rp, ca, sg) P x f) (C, T, F, K, rc, st, rs, ti, ni, cr, hc, nk, ms, ei, us, dn, sa, fi, lo, hi, wa, ic, se, lc, rm, w, q, ih, vd, ro, no) P x f := by
  obtain ⟨VS, VO, VQ, VN⟩ := V
  have hp := pp_lt HP
  have pv := pp_v HP
  obtain ⟨z, hz8, ez⟩ := VQ p hp
  have V : pn_V st ti lo hi ic q no := ⟨VS, VO, VQ, VN⟩
  have g0 := pp_ge0 HP
  have g1 := pp_le1 HP
  have g2 := pp_ng1 HP
  unfold wpX_wireInfo
  refine xa_end1 HP (br_f (by decide) ?_)
  rw [pp_n HP]
  by_cases x0 : x < 0
  · refine br_t x0 ?_
    unfold wpY_wireInfo
    exact br_f g0 (br_f g2 (br_t x0 ⟨rfl, pr_mk V⟩))
  refine br_f x0 ⟨pv, ?_⟩
  by_cases xq : q p ≤ x
  · refine br_t xq ?_
    unfold wpY_wireInfo
    refine br_f g0 (br_f g2 (br_f x0 ⟨pv, ?_⟩))
    rw [pp_n HP]
    exact br_t xq ⟨rfl, pr_mk V⟩
  refine br_f xq ?_
  by_cases f0 : f < 0
  · refine br_t f0 ?_
    unfold wpY_wireInfo
    refine br_f g0 (br_f g2 (br_f x0 ⟨pv, ?_⟩))
    rw [pp_n HP]
    exact br_f xq (br_t f0 ⟨rfl, pr_mk V⟩)
  refine br_f f0 ?_
  by_cases f7 : f < 7
  · have f6 : f ≤ 6 := pn_76 f7
    obtain ⟨i, hi8, rfl⟩ := nI_of (x := x) x0
    obtain ⟨j, hj, rfl⟩ := nI_of2 (M := 6) (n := 6) (by decide) f0 f6
    have hiz : i < z := by
      rw [ez, nI_leI (by omega) hi8] at xq
      omega
    have eX : (((P * 8) + nI i) * 7) + nI j = nI (p * 56 + i * 7 + j) := by rw [pp_b HP, nI_add]
    have eY : ((P * 56) + (nI i * 7)) + nI j = nI (p * 56 + i * 7 + j) := by rw [pp_y HP, nI_add]
    have vv : vp_in (nI (p * 56 + i * 7 + j)) 112 := vp_in_nI (by omega) (by decide)
    refine br_t f7 ?_
    rw [eX]
    refine ⟨vv, ?_⟩
    unfold wpY_wireInfo
    refine br_f g0 (br_f g2 (br_f x0 ⟨pv, ?_⟩))
    rw [pp_n HP, eY]
    exact br_f xq (br_f f0 (br_t f6 ⟨vv, rfl, pr_mk V⟩))
  · refine br_f f7 ?_
    unfold wpY_wireInfo
    refine br_f g0 (br_f g2 (br_f x0 ⟨pv, ?_⟩))
    rw [pp_n HP]
    exact br_f xq (br_f f0 (br_f (pn_67 f7) ⟨rfl, pr_mk V⟩))
theorem op_setRange (HP : pn_P P p) (V : pn_V st ti lo hi ic q no) (o a b : Int32) : wpX_setRange (fun r u' => wpY_setRange (fun r' v' => r' = r ∧ i_Rel k u' v') (C, T, F, K, pn_I st rs ti ni cr hc nk ms ei us dn sa fi, pn_O lo hi wa ic se lc rm, w, q, mg, ou, rp, ca, sg) P o a b) (C, T, F, K, rc, st, rs, ti, ni, cr, hc, nk, ms, ei, us, dn, sa, fi, lo, hi, wa, ic, se, lc, rm, w, q, ih, vd, ro, no) P o a b := by
  obtain ⟨VS, VO, VQ, VN⟩ := V
  have hp := pp_lt HP
  have pv := pp_v HP
  obtain ⟨z, hz8, ez⟩ := VQ p hp
  have V : pn_V st ti lo hi ic q no := ⟨VS, VO, VQ, VN⟩
  have g0 := pp_ge0 HP
  have g1 := pp_le1 HP
  have g2 := pp_ng1 HP
  unfold wpX_setRange
  refine xa_end1 HP (br_f (by decide) ?_)
  unfold wpX_isOption
  by_cases o0 : o < 0
  · refine br_t o0 (br_t rfl ?_)
    unfold wpY_setRange
    exact br_f g0 (br_f g2 (br_t o0 ⟨rfl, pr_mk V⟩))
  by_cases o4 : 4 ≤ o
  · refine br_f o0 (br_t o4 (br_t rfl ?_))
    unfold wpY_setRange
    exact br_f g0 (br_f g2 (br_f o0 (br_f (Int32.not_le.mpr (pn_43 o4)) ⟨rfl, pr_mk V⟩)))
  have o3 : o ≤ 3 := Int32.not_lt.mp (pn_34 o4)
  obtain ⟨i, hi4, rfl⟩ := nI_of2 (M := 3) (n := 3) (by decide) o0 o3
  have hk : i < 4 := by omega
  refine br_f o0 (br_f o4 (br_f (by decide) ⟨pv, ?_⟩))
  rw [pp_n HP]
  by_cases s4 : st p < 4
  · refine br_t s4 ?_
    intro x5 e5
    have ex : x5.toNatClampNeg = p * 4 + i := by rw [e5, pp_4 HP hk]
    have vx : vp_in x5 8 := by rw [e5]; exact pp_v4 HP hk
    rw [ex]
    refine xa_clamp ⟨vx, nm_e (xa_clamp ⟨vx, nm_e ?_⟩)⟩
    unfold wpY_setRange
    refine br_f g0 (br_f g2 (br_f o0 (br_t o3 (ya_st HP (br_t s4 ?_)))))
    intro y5 d5
    have w0 : y5.toNatClampNeg = (p * 4 + i) * 7 + 0 := by rw [d5]; exact pp_o0 HP hk
    have w1 : (y5 + 1).toNatClampNeg = (p * 4 + i) * 7 + 1 := by rw [d5]; exact pp_o1 HP hk
    have u0 : vp_in y5 56 := by rw [d5]; exact pp_vo0 HP hk
    have u1 : vp_in (y5 + 1) 56 := by rw [d5]; exact pp_vo1 HP hk
    rw [w0, w1]
    refine ya_lim ⟨u0, ?_⟩
    rw [pn_O_u0]
    refine nm_e (ya_lim ⟨u1, ?_⟩)
    rw [pn_O_u1]
    exact nm_e ⟨rfl, pr_mk ⟨VS, pn_VO_r VO (pn_cl_r a).1 (pn_cl_r b), VQ, VN⟩⟩
  · refine br_f s4 ?_
    unfold wpY_setRange
    refine br_f g0 (br_f g2 (br_f o0 (br_t o3 (ya_st HP ?_))))
    exact br_f s4 ⟨rfl, pr_mk V⟩
end PB
theorem i_vc_setRange {k : Nat} {u : SX} {v : SY} (I : i_Rel k u v) (hk : k + 5 ≤ 2564) (v1 : Int32) (v2 : Int32) (v3 : Int32) (v4 : Int32) : wpX_setRange (fun r u' => wpY_setRange (fun r' v' => r' = r ∧ i_Rel (k + 5) u' v') v v1 v2 v3 v4) u v1 v2 v3 v4 := by
  obtain ⟨C, T, F, K, rc, st, rs, ti, ni, cr, hc, nk, ms, ei, us, dn, sa, fi, lo, hi, wa, ic, se, lc, rm, w, q, ih, vd, ro, no, mg, ou, rp, ca, sg, rfl, rfl, V⟩ := I
  by_cases c0 : v1 = 0
  · subst c0; exact op_setRange pp_0 V v2 v3 v4
  by_cases c1 : v1 = 1
  · subst c1; exact op_setRange pp_1 V v2 v3 v4
  unfold wpX_setRange
  refine xa_end0 c0 c1 (br_t rfl ?_)
  unfold wpY_setRange
  rcases pp_out c0 c1 with a | ⟨a, b, c⟩
  · exact br_t a ⟨rfl, pr_mk V⟩
  · exact br_f a (br_t b ⟨rfl, pr_mk V⟩)
theorem i_vc_open {k : Nat} {u : SX} {v : SY} (I : i_Rel k u v) (hk : k + 5 ≤ 2564) (v1 : Int32) : wpX_open (fun r u' => wpY_open (fun r' v' => r' = r ∧ i_Rel (k + 5) u' v') v v1) u v1 := by
  obtain ⟨C, T, F, K, rc, st, rs, ti, ni, cr, hc, nk, ms, ei, us, dn, sa, fi, lo, hi, wa, ic, se, lc, rm, w, q, ih, vd, ro, no, mg, ou, rp, ca, sg, rfl, rfl, V⟩ := I
  by_cases c0 : v1 = 0
  · subst c0; exact op_open pp_0 V
  by_cases c1 : v1 = 1
  · subst c1; exact op_open pp_1 V
  unfold wpX_open
  refine xa_end0 c0 c1 (br_t rfl ?_)
  unfold wpY_open
  rcases pp_out c0 c1 with a | ⟨a, b, c⟩
  · exact br_t a ⟨rfl, pr_mk V⟩
  · exact br_f a (br_f c ⟨rfl, pr_mk V⟩)
theorem i_vc_close {k : Nat} {u : SX} {v : SY} (I : i_Rel k u v) (hk : k + 5 ≤ 2564) (v1 : Int32) : wpX_close (fun r u' => wpY_close (fun r' v' => r' = r ∧ i_Rel (k + 5) u' v') v v1) u v1 := by
  obtain ⟨C, T, F, K, rc, st, rs, ti, ni, cr, hc, nk, ms, ei, us, dn, sa, fi, lo, hi, wa, ic, se, lc, rm, w, q, ih, vd, ro, no, mg, ou, rp, ca, sg, rfl, rfl, V⟩ := I
  by_cases c0 : v1 = 0
  · subst c0; exact op_close pp_0 V
  by_cases c1 : v1 = 1
  · subst c1; exact op_close pp_1 V
  unfold wpX_close
  refine xa_end0 c0 c1 (br_t rfl ?_)
  unfold wpY_close
  rcases pp_out c0 c1 with a | ⟨a, b, c⟩
  · exact br_t a ⟨rfl, pr_mk V⟩
  · exact br_f a (br_f c ⟨rfl, pr_mk V⟩)
theorem i_vc_up {k : Nat} {u : SX} {v : SY} (I : i_Rel k u v) (hk : k + 5 ≤ 2564) (v1 : Int32) : wpX_up (fun r u' => wpY_up (fun r' v' => r' = r ∧ i_Rel (k + 5) u' v') v v1) u v1 := by
  obtain ⟨C, T, F, K, rc, st, rs, ti, ni, cr, hc, nk, ms, ei, us, dn, sa, fi, lo, hi, wa, ic, se, lc, rm, w, q, ih, vd, ro, no, mg, ou, rp, ca, sg, rfl, rfl, V⟩ := I
  by_cases c0 : v1 = 0
  · subst c0; exact op_up pp_0 V
  by_cases c1 : v1 = 1
  · subst c1; exact op_up pp_1 V
  unfold wpX_up
  refine xa_end0 c0 c1 (br_t rfl ?_)
  unfold wpY_up
  rcases pp_out c0 c1 with a | ⟨a, b, c⟩
  · exact br_t a ⟨rfl, pr_mk V⟩
  · exact br_f a (br_f c ⟨rfl, pr_mk V⟩)
theorem i_vc_down {k : Nat} {u : SX} {v : SY} (I : i_Rel k u v) (hk : k + 5 ≤ 2564) (v1 : Int32) : wpX_down (fun r u' => wpY_down (fun r' v' => r' = r ∧ i_Rel (k + 5) u' v') v v1) u v1 := by
  obtain ⟨C, T, F, K, rc, st, rs, ti, ni, cr, hc, nk, ms, ei, us, dn, sa, fi, lo, hi, wa, ic, se, lc, rm, w, q, ih, vd, ro, no, mg, ou, rp, ca, sg, rfl, rfl, V⟩ := I
  by_cases c0 : v1 = 0
  · subst c0; exact op_down pp_0 V
  by_cases c1 : v1 = 1
  · subst c1; exact op_down pp_1 V
  unfold wpX_down
  refine xa_end0 c0 c1 (br_t rfl ?_)
  unfold wpY_down
  rcases pp_out c0 c1 with a | ⟨a, b, c⟩
  · exact br_t a ⟨rfl, pr_mk V⟩
  · exact br_f a (br_f c ⟨rfl, pr_mk V⟩)
theorem i_vc_tick {k : Nat} {u : SX} {v : SY} (I : i_Rel k u v) (hk : k + 5 ≤ 2564) : wpX_tick (fun u' => wpY_tick (fun v' => i_Rel (k + 5) u' v') v) u := by
  obtain ⟨C, T, F, K, rc, st, rs, ti, ni, cr, hc, nk, ms, ei, us, dn, sa, fi, lo, hi, wa, ic, se, lc, rm, w, q, ih, vd, ro, no, mg, ou, rp, ca, sg, rfl, rfl, V⟩ := I
  exact op_tick V
theorem i_vc_deliver {k : Nat} {u : SX} {v : SY} (I : i_Rel k u v) (hk : k + 5 ≤ 2564) (v1 : Int32) : wpX_deliver (fun r u' => wpY_deliver (fun r' v' => r' = r ∧ i_Rel (k + 5) u' v') v v1) u v1 := by
  obtain ⟨C, T, F, K, rc, st, rs, ti, ni, cr, hc, nk, ms, ei, us, dn, sa, fi, lo, hi, wa, ic, se, lc, rm, w, q, ih, vd, ro, no, mg, ou, rp, ca, sg, rfl, rfl, V⟩ := I
  by_cases c0 : v1 = 0
  · subst c0; exact op_deliver pp_0 pp_1 (by decide) V
  by_cases c1 : v1 = 1
  · subst c1; exact op_deliver pp_1 pp_0 (by decide) V
  unfold wpX_deliver
  refine xa_hasE c0 c1 (br_t rfl ?_)
  unfold wpY_deliver
  rcases pp_out c0 c1 with a | ⟨a, b, c⟩
  · exact br_t a ⟨rfl, pr_mk V⟩
  · exact br_f a (br_t b ⟨rfl, pr_mk V⟩)
theorem i_vc_drop {k : Nat} {u : SX} {v : SY} (I : i_Rel k u v) (hk : k + 5 ≤ 2564) (v1 : Int32) : wpX_drop (fun r u' => wpY_drop (fun r' v' => r' = r ∧ i_Rel (k + 5) u' v') v v1) u v1 := by
  obtain ⟨C, T, F, K, rc, st, rs, ti, ni, cr, hc, nk, ms, ei, us, dn, sa, fi, lo, hi, wa, ic, se, lc, rm, w, q, ih, vd, ro, no, mg, ou, rp, ca, sg, rfl, rfl, V⟩ := I
  by_cases c0 : v1 = 0
  · subst c0; exact op_drop pp_0 V
  by_cases c1 : v1 = 1
  · subst c1; exact op_drop pp_1 V
  unfold wpX_drop
  refine xa_hasE c0 c1 (br_t rfl ?_)
  unfold wpY_drop
  rcases pp_out c0 c1 with a | ⟨a, b, c⟩
  · exact br_t a ⟨rfl, pr_mk V⟩
  · exact br_f a (br_t b ⟨rfl, pr_mk V⟩)
theorem i_vc_duplicate {k : Nat} {u : SX} {v : SY} (I : i_Rel k u v) (hk : k + 5 ≤ 2564) (v1 : Int32) : wpX_duplicate (fun r u' => wpY_duplicate (fun r' v' => r' = r ∧ i_Rel (k + 5) u' v') v v1) u v1 := by
  obtain ⟨C, T, F, K, rc, st, rs, ti, ni, cr, hc, nk, ms, ei, us, dn, sa, fi, lo, hi, wa, ic, se, lc, rm, w, q, ih, vd, ro, no, mg, ou, rp, ca, sg, rfl, rfl, V⟩ := I
  by_cases c0 : v1 = 0
  · subst c0; exact op_duplicate pp_0 V
  by_cases c1 : v1 = 1
  · subst c1; exact op_duplicate pp_1 V
  unfold wpX_duplicate
  refine xa_hasE c0 c1 (br_t rfl ?_)
  unfold wpY_duplicate
  rcases pp_out c0 c1 with a | ⟨a, b, c⟩
  · exact br_t a ⟨rfl, pr_mk V⟩
  · exact br_f a (br_t b ⟨rfl, pr_mk V⟩)
theorem i_vc_rotate {k : Nat} {u : SX} {v : SY} (I : i_Rel k u v) (hk : k + 5 ≤ 2564) (v1 : Int32) : wpX_rotate (fun r u' => wpY_rotate (fun r' v' => r' = r ∧ i_Rel (k + 5) u' v') v v1) u v1 := by
  obtain ⟨C, T, F, K, rc, st, rs, ti, ni, cr, hc, nk, ms, ei, us, dn, sa, fi, lo, hi, wa, ic, se, lc, rm, w, q, ih, vd, ro, no, mg, ou, rp, ca, sg, rfl, rfl, V⟩ := I
  by_cases c0 : v1 = 0
  · subst c0; exact op_rotate pp_0 V
  by_cases c1 : v1 = 1
  · subst c1; exact op_rotate pp_1 V
  unfold wpX_rotate
  refine xa_hasE c0 c1 (br_t rfl ?_)
  unfold wpY_rotate
  rcases pp_out c0 c1 with a | ⟨a, b, c⟩
  · exact br_t a ⟨rfl, pr_mk V⟩
  · exact br_f a (br_t b ⟨rfl, pr_mk V⟩)
theorem i_vc_echo {k : Nat} {u : SX} {v : SY} (I : i_Rel k u v) (hk : k + 5 ≤ 2564) (v1 : Int32) : wpX_echo (fun r u' => wpY_echo (fun r' v' => r' = r ∧ i_Rel (k + 5) u' v') v v1) u v1 := by
  obtain ⟨C, T, F, K, rc, st, rs, ti, ni, cr, hc, nk, ms, ei, us, dn, sa, fi, lo, hi, wa, ic, se, lc, rm, w, q, ih, vd, ro, no, mg, ou, rp, ca, sg, rfl, rfl, V⟩ := I
  by_cases c0 : v1 = 0
  · subst c0; exact op_echo pp_0 V
  by_cases c1 : v1 = 1
  · subst c1; exact op_echo pp_1 V
  unfold wpX_echo
  refine xa_end0 c0 c1 (br_t rfl ?_)
  unfold wpY_echo
  rcases pp_out c0 c1 with a | ⟨a, b, c⟩
  · exact br_t a ⟨rfl, pr_mk V⟩
  · exact br_f a (br_t b ⟨rfl, pr_mk V⟩)
theorem i_vc_inject {k : Nat} {u : SX} {v : SY} (I : i_Rel k u v) (hk : k + 5 ≤ 2564) (v1 : Int32) (v2 : Int32) (v3 : Int32) : wpX_inject (fun r u' => wpY_inject (fun r' v' => r' = r ∧ i_Rel (k + 5) u' v') v v1 v2 v3) u v1 v2 v3 := by
  obtain ⟨C, T, F, K, rc, st, rs, ti, ni, cr, hc, nk, ms, ei, us, dn, sa, fi, lo, hi, wa, ic, se, lc, rm, w, q, ih, vd, ro, no, mg, ou, rp, ca, sg, rfl, rfl, V⟩ := I
  by_cases c0 : v1 = 0
  · subst c0; exact op_inject pp_0 V v2 v3
  by_cases c1 : v1 = 1
  · subst c1; exact op_inject pp_1 V v2 v3
  unfold wpX_inject
  refine xa_end0 c0 c1 (br_t rfl ?_)
  unfold wpY_inject
  rcases pp_out c0 c1 with a | ⟨a, b, c⟩
  · exact br_t a ⟨rfl, pr_mk V⟩
  · exact br_f a (br_f c ⟨rfl, pr_mk V⟩)
theorem i_vc_peerInfo {k : Nat} {u : SX} {v : SY} (I : i_Rel k u v) (hk : k + 5 ≤ 2564) (v1 : Int32) (v2 : Int32) : wpX_peerInfo (fun r => wpY_peerInfo (fun r' => r' = r ∧ i_Rel (k + 5) u v) v v1 v2) u v1 v2 := by
  obtain ⟨C, T, F, K, rc, st, rs, ti, ni, cr, hc, nk, ms, ei, us, dn, sa, fi, lo, hi, wa, ic, se, lc, rm, w, q, ih, vd, ro, no, mg, ou, rp, ca, sg, rfl, rfl, V⟩ := I
  by_cases c0 : v1 = 0
  · subst c0; exact op_peerInfo pp_0 V v2
  by_cases c1 : v1 = 1
  · subst c1; exact op_peerInfo pp_1 V v2
  unfold wpX_peerInfo
  refine xa_end0 c0 c1 (br_t rfl ?_)
  unfold wpY_peerInfo
  rcases pp_out c0 c1 with a | ⟨a, b, c⟩
  · exact br_t a ⟨rfl, pr_mk V⟩
  · exact br_f a (br_t b ⟨rfl, pr_mk V⟩)
theorem i_vc_optionInfo {k : Nat} {u : SX} {v : SY} (I : i_Rel k u v) (hk : k + 5 ≤ 2564) (v1 : Int32) (v2 : Int32) (v3 : Int32) : wpX_optionInfo (fun r => wpY_optionInfo (fun r' => r' = r ∧ i_Rel (k + 5) u v) v v1 v2 v3) u v1 v2 v3 := by
  obtain ⟨C, T, F, K, rc, st, rs, ti, ni, cr, hc, nk, ms, ei, us, dn, sa, fi, lo, hi, wa, ic, se, lc, rm, w, q, ih, vd, ro, no, mg, ou, rp, ca, sg, rfl, rfl, V⟩ := I
  by_cases c0 : v1 = 0
  · subst c0; exact op_optionInfo pp_0 V v2 v3
  by_cases c1 : v1 = 1
  · subst c1; exact op_optionInfo pp_1 V v2 v3
  unfold wpX_optionInfo
  refine xa_end0 c0 c1 (br_t rfl ?_)
  unfold wpY_optionInfo
  rcases pp_out c0 c1 with a | ⟨a, b, c⟩
  · exact br_t a ⟨rfl, pr_mk V⟩
  · exact br_f a (br_t b ⟨rfl, pr_mk V⟩)
theorem i_vc_wireSize {k : Nat} {u : SX} {v : SY} (I : i_Rel k u v) (hk : k + 5 ≤ 2564) (v1 : Int32) : wpX_wireSize (fun r => wpY_wireSize (fun r' => r' = r ∧ i_Rel (k + 5) u v) v v1) u v1 := by
  obtain ⟨C, T, F, K, rc, st, rs, ti, ni, cr, hc, nk, ms, ei, us, dn, sa, fi, lo, hi, wa, ic, se, lc, rm, w, q, ih, vd, ro, no, mg, ou, rp, ca, sg, rfl, rfl, V⟩ := I
  by_cases c0 : v1 = 0
  · subst c0; exact op_wireSize pp_0 V
  by_cases c1 : v1 = 1
  · subst c1; exact op_wireSize pp_1 V
  unfold wpX_wireSize
  refine xa_end0 c0 c1 (br_t rfl ?_)
  unfold wpY_wireSize
  rcases pp_out c0 c1 with a | ⟨a, b, c⟩
  · exact br_t a ⟨rfl, pr_mk V⟩
  · exact br_f a (br_f c ⟨rfl, pr_mk V⟩)
theorem i_vc_wireInfo {k : Nat} {u : SX} {v : SY} (I : i_Rel k u v) (hk : k + 5 ≤ 2564) (v1 : Int32) (v2 : Int32) (v3 : Int32) : wpX_wireInfo (fun r => wpY_wireInfo (fun r' => r' = r ∧ i_Rel (k + 5) u v) v v1 v2 v3) u v1 v2 v3 := by
  obtain ⟨C, T, F, K, rc, st, rs, ti, ni, cr, hc, nk, ms, ei, us, dn, sa, fi, lo, hi, wa, ic, se, lc, rm, w, q, ih, vd, ro, no, mg, ou, rp, ca, sg, rfl, rfl, V⟩ := I
  by_cases c0 : v1 = 0
  · subst c0; exact op_wireInfo pp_0 V v2 v3
  by_cases c1 : v1 = 1
  · subst c1; exact op_wireInfo pp_1 V v2 v3
  unfold wpX_wireInfo
  refine xa_end0 c0 c1 (br_t rfl ?_)
  unfold wpY_wireInfo
  rcases pp_out c0 c1 with a | ⟨a, b, c⟩
  · exact br_t a ⟨rfl, pr_mk V⟩
  · exact br_f a (br_t b ⟨rfl, pr_mk V⟩)
