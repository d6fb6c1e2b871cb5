theorem pn_codes (x : Int32) : x < 1 ∨ 11 < x ∨ x = 1 ∨ x = 2 ∨ x = 3 ∨ x = 4 ∨ x = 5 ∨ x = 6 ∨ x = 7 ∨ x = 8 ∨ x = 9 ∨ x = 10 ∨ x = 11 := by
  by_cases h1 : x < 1
  · exact Or.inl h1
  by_cases h2 : 11 < x
  · exact Or.inr (Or.inl h2)
  have hx : x ≤ 11 := Int32.not_lt.mp h2
  have h0 : ¬ x < 0 := fun z => h1 (Int32.lt_trans z (by decide))
  obtain ⟨j, hj, rfl⟩ := nI_of2 (M := 11) (n := 11) (by decide) h0 hx
  have hj1 : 1 ≤ j := by
    rcases Nat.eq_zero_or_pos j with rfl | h
    · exact absurd (by decide) h1
    · exact h
  have : j = 1 ∨ j = 2 ∨ j = 3 ∨ j = 4 ∨ j = 5 ∨ j = 6 ∨ j = 7 ∨ j = 8 ∨ j = 9 ∨ j = 10 ∨ j = 11 := by omega
  rcases this with rfl | rfl | rfl | rfl | rfl | rfl | rfl | rfl | rfl | rfl | rfl <;> decide
theorem pn_lt12 {x : Int32} (h : x < 1) : x < 2 := Int32.lt_trans h (by decide)
theorem pn_gt1 {x : Int32} (h : 11 < x) : ¬ x < 1 := fun z => absurd (Int32.lt_trans h z) (by decide)
theorem pn_gt2 {x : Int32} (h : 11 < x) : ¬ x < 2 := fun z => absurd (Int32.lt_trans h z) (by decide)
theorem pn_gt4 {x : Int32} (h : 11 < x) : 4 < x := Int32.lt_trans (by decide) h
section RV
variable {C T F K rc : Int32} {st rs ti ni cr hc nk ms ei us dn sa fi lo hi wa ic se lc rm w q ih vd ro no : Nat → Int32} {P : Int32} {p : Nat} {post : St2 → Prop}
variable {M R : Nat → Int32} {N e s t : Nat}
theorem pn_C2 {J : Nat → Int32} {n f : Int32} : pn_C J n f = 2 ↔ (pn_R J = 0 ∧ pn_N J = 0) := by
  unfold pn_C
  by_cases c1 : pn_R J = 0
  · rw [if_pos c1]
    by_cases c2 : pn_N J = 0
    · rw [if_pos c2]; exact ⟨fun _ => ⟨c1, c2⟩, fun _ => rfl⟩
    · rw [if_neg c2]
      by_cases c3 : n < f
      · rw [if_pos c3]; exact ⟨fun e => absurd e (by decide), fun e => absurd e.2 c2⟩
      · rw [if_neg c3]; exact ⟨fun e => absurd e (by decide), fun e => absurd e.2 c2⟩
  · rw [if_neg c1]; exact ⟨fun e => absurd e (by decide), fun e => absurd e.1 c1⟩
theorem pn_C1 {J : Nat → Int32} {n f : Int32} : ¬ pn_C J n f = 1 := by
  unfold pn_C
  by_cases c1 : pn_R J = 0
  · rw [if_pos c1]
    by_cases c2 : pn_N J = 0
    · rw [if_pos c2]; decide
    · rw [if_neg c2]
      by_cases c3 : n < f
      · rw [if_pos c3]; decide
      · rw [if_neg c3]; decide
  · rw [if_neg c1]; decide
theorem iv_F_lc {lc2 : Nat → Int32} (I : iv_F cr hc lo hi wa ic se lc rm s p e) (h : ¬ (s = 7 ∨ s = 9)) : iv_F cr hc lo hi wa ic se lc2 rm s p e :=
  ⟨I.1, I.2.1, fun z => absurd z h, I.2.2.2⟩
theorem ev_ka (HP : pn_P P p) (pq : p + e = 1) (hN : N + 1 < 2 ^ 31) (VO : pn_VO lo hi ic) (VQ : pn_VQ q) (VN : pn_VN no) (KK : iv_K N ni cr hc se rm w q p e) (es : st p = nI s) (hs9 : s ≤ 9) (Fp : iv_F cr hc lo hi wa ic se lc rm s p e) (et : st e = nI t) (ht9 : t ≤ 9) (Fe : iv_F cr hc lo hi wa ic se lc rm t e p) (hM : ∀ f, f < 7 → ih f = M f) (hs2 : 2 ≤ s) (H : (∀ (C T F K rc : Int32) (st rs ti ni cr hc nk ms ei us dn sa fi lo hi wa ic se lc rm w q ih vd ro no : Nat → Int32), iv_I (N + 1) p e st ni cr hc lo hi wa ic se lc rm w q no → post (C, T, F, K, rc, st, rs, ti, ni, cr, hc, nk, ms, ei, us, dn, sa, fi, lo, hi, wa, ic, se, lc, rm, w, q, ih, vd, ro, no))) : wpX_onKeepalive post (C, T, F, K, rc, st, rs, ti, ni, cr, hc, nk, ms, ei, us, dn, sa, fi, lo, hi, wa, ic, se, lc, rm, w, q, ih, vd, ro, no) P := by
  have hp := pp_lt HP
  have pv := pp_v HP
  obtain ⟨z, hz8, ez⟩ := VQ p hp
  have KN := iv_K_N (Nat.le_succ N) hN KK
  unfold wpX_onKeepalive
  refine ⟨pv, ?_⟩
  rw [pp_n HP]
  refine br_c (fun _ => ?_) (fun _ => ?_)
  · refine br_c (fun _ => ?_) (fun _ => ?_)
    · refine xa_app0 HP VN ez hz8 ?_
      exact H _ _ _ _ _ _ _ _ _ _ _ _ _ _ _ _ _ _ _ _ _ _ _ _ _ _ _ _ _ _ _ (iv_ms VO (pn_VQ_a VQ hp) VN (iv_K_c pq ez hz8 KN (by decide) (by decide)) hs9 Fp es et ht9 Fe)
    · refine br_c (fun _ => ⟨pv, ?_⟩) (fun _ => ?_)
      · refine br_c (fun _ => ⟨pv, nm_e ?_⟩) (fun _ => ?_)
        · exact H _ _ _ _ _ _ _ _ _ _ _ _ _ _ _ _ _ _ _ _ _ _ _ _ _ _ _ _ _ _ _ (iv_ms VO VQ VN KN hs9 Fp es et ht9 Fe)
        · exact H _ _ _ _ _ _ _ _ _ _ _ _ _ _ _ _ _ _ _ _ _ _ _ _ _ _ _ _ _ _ _ (iv_ms VO VQ VN KN hs9 Fp es et ht9 Fe)
      · exact H _ _ _ _ _ _ _ _ _ _ _ _ _ _ _ _ _ _ _ _ _ _ _ _ _ _ _ _ _ _ _ (iv_ms VO VQ VN KN hs9 Fp es et ht9 Fe)
  · exact H _ _ _ _ _ _ _ _ _ _ _ _ _ _ _ _ _ _ _ _ _ _ _ _ _ _ _ _ _ _ _ (iv_ms VO VQ VN KN hs9 Fp es et ht9 Fe)
theorem ev_scj (HP : pn_P P p) (pq : p + e = 1) (hN : N + 1 < 2 ^ 31) (VO : pn_VO lo hi ic) (VQ : pn_VQ q) (VN : pn_VN no) (KK : iv_K N ni cr hc se rm w q p e) (es : st p = nI s) (hs9 : s ≤ 9) (Fp : iv_F cr hc lo hi wa ic se lc rm s p e) (et : st e = nI t) (ht9 : t ≤ 9) (Fe : iv_F cr hc lo hi wa ic se lc rm t e p) (hM : ∀ f, f < 7 → ih f = M f) (hs2 : 2 ≤ s) (H : (∀ (C T F K rc : Int32) (st rs ti ni cr hc nk ms ei us dn sa fi lo hi wa ic se lc rm w q ih vd ro no : Nat → Int32), iv_I (N + 1) p e st ni cr hc lo hi wa ic se lc rm w q no → post (C, T, F, K, rc, st, rs, ti, ni, cr, hc, nk, ms, ei, us, dn, sa, fi, lo, hi, wa, ic, se, lc, rm, w, q, ih, vd, ro, no))) : wpX_sendCodeReject post (C, T, F, K, rc, st, rs, ti, ni, cr, hc, nk, ms, ei, us, dn, sa, fi, lo, hi, wa, ic, se, lc, rm, w, q, ih, vd, ro, no) P := by
  have hp := pp_lt HP
  have pv := pp_v HP
  obtain ⟨z, hz8, ez⟩ := VQ p hp
  have KN := iv_K_N (Nat.le_succ N) hN KK
  refine xa_scj HP VN ez hz8 (hM 0 (by decide)) ?_
  exact H _ _ _ _ _ _ _ _ _ _ _ _ _ _ _ _ _ _ _ _ _ _ _ _ _ _ _ _ _ _ _ (iv_ms VO (pn_VQ_a VQ hp) VN (iv_K_c pq ez hz8 (iv_ni pq hN KK) (by decide) (by decide)) hs9 Fp es et ht9 Fe)
theorem ev_rxp (HP : pn_P P p) (pq : p + e = 1) (hN : N + 1 < 2 ^ 31) (VO : pn_VO lo hi ic) (VQ : pn_VQ q) (VN : pn_VN no) (KK : iv_K N ni cr hc se rm w q p e) (es : st p = nI s) (hs9 : s ≤ 9) (Fp : iv_F cr hc lo hi wa ic se lc rm s p e) (et : st e = nI t) (ht9 : t ≤ 9) (Fe : iv_F cr hc lo hi wa ic se lc rm t e p) (H : (∀ (C T F K rc : Int32) (st rs ti ni cr hc nk ms ei us dn sa fi lo hi wa ic se lc rm w q ih vd ro no : Nat → Int32), iv_I (N + 1) p e st ni cr hc lo hi wa ic se lc rm w q no → post (C, T, F, K, rc, st, rs, ti, ni, cr, hc, nk, ms, ei, us, dn, sa, fi, lo, hi, wa, ic, se, lc, rm, w, q, ih, vd, ro, no))) : wX_onCodeReject_18 post P C T F K rc st rs ti ni cr hc nk ms ei us dn sa fi lo hi wa ic se lc rm w q ih vd ro no := by
  have hp := pp_lt HP
  have pv := pp_v HP
  obtain ⟨z, hz8, ez⟩ := VQ p hp
  have KN := iv_K_N (Nat.le_succ N) hN KK
  unfold wX_onCodeReject_18
  rw [pp_n HP]
  refine ⟨pv, ?_⟩
  by_cases c7 : st p = 7
  · refine br_t c7 ⟨pv, nm_e ?_⟩
    have s7 : s = 7 := by
      rw [es] at c7
      exact (nI_eq (b := 7) (by omega) (by decide)).mp c7
    subst s7
    exact H _ _ _ _ _ _ _ _ _ _ _ _ _ _ _ _ _ _ _ _ _ _ _ _ _ _ _ _ _ _ _ (iv_mk (n := 6) pq VO VQ VN KN (by decide) (iv_F_le Fp (by decide) (by decide) (by decide) (by decide)) et ht9 Fe)
  · refine br_f c7 ?_
    exact H _ _ _ _ _ _ _ _ _ _ _ _ _ _ _ _ _ _ _ _ _ _ _ _ _ _ _ _ _ _ _ (iv_ms VO VQ VN KN hs9 Fp es et ht9 Fe)
theorem ev_cls (HP : pn_P P p) (pq : p + e = 1) (hN : N + 1 < 2 ^ 31) (VO : pn_VO lo hi ic) (VQ : pn_VQ q) (VN : pn_VN no) (KK : iv_K N ni cr hc se rm w q p e) (es : st p = nI s) (hs9 : s ≤ 9) (Fp : iv_F cr hc lo hi wa ic se lc rm s p e) (et : st e = nI t) (ht9 : t ≤ 9) (Fe : iv_F cr hc lo hi wa ic se lc rm t e p) (hM : ∀ f, f < 7 → ih f = M f) (hs2 : 2 ≤ s) (hcp : hc p = M 1) (hA : s = 3 → iv_A lo hi wa ic p) (hq : M 1 = cr e → ∀ k, k < 4 → (fun j => M (3 + j)) k = se (e * 4 + k)) (H : (∀ (C T F K rc : Int32) (st rs ti ni cr hc nk ms ei us dn sa fi lo hi wa ic se lc rm w q ih vd ro no : Nat → Int32), iv_I (N + 1) p e st ni cr hc lo hi wa ic se lc rm w q no → post (C, T, F, K, rc, st, rs, ti, ni, cr, hc, nk, ms, ei, us, dn, sa, fi, lo, hi, wa, ic, se, lc, rm, w, q, ih, vd, ro, no))) : wX_receiveRequest_43 post P C T F K rc st rs ti ni cr hc nk ms ei us dn sa fi lo hi wa ic se lc rm w q ih vd ro no := by
  have hp := pp_lt HP
  unfold wX_receiveRequest_43
  refine xa_class HP hM (fun vd2 ro2 hro => ?_)
  by_cases c2 : pn_C (pn_J lo hi wa ic p M) (nk p) F = 2
  · obtain ⟨cR, cN⟩ := pn_C2.mp c2
    have hro2 : ∀ k, k < 4 → ro2 k = (fun j => M (3 + j)) k := fun k hk => (hro k hk).trans (if_pos c2)
    refine br_t c2 (ev_good HP pq hN VO VQ VN KK es hs9 Fp et ht9 Fe hM hs2 hcp hA hro2 hq ?_ H)
    intro k hk
    have vo := (VO (p * 4 + k) (by omega)).1
    have jj := iv_RN cR cN k hk
    exact iv_jud vo.1 vo.2.1 jj.1 jj.2
  · exact br_f c2 (ev_bad HP pq hN VO VQ VN KK es hs9 Fp et ht9 Fe hM hs2 hcp hA hro pn_C1 c2 H)
theorem ev_req (HP : pn_P P p) (pq : p + e = 1) (hN : N + 1 < 2 ^ 31) (VO : pn_VO lo hi ic) (VQ : pn_VQ q) (VN : pn_VN no) (KK : iv_K N ni cr hc se rm w q p e) (es : st p = nI s) (hs9 : s ≤ 9) (Fp : iv_F cr hc lo hi wa ic se lc rm s p e) (et : st e = nI t) (ht9 : t ≤ 9) (Fe : iv_F cr hc lo hi wa ic se lc rm t e p) (hM : ∀ f, f < 7 → ih f = M f) (hs2 : 2 ≤ s) (m01 : M 0 = 1) (I : iv_m cr hc se rm e p M) (H : (∀ (C T F K rc : Int32) (st rs ti ni cr hc nk ms ei us dn sa fi lo hi wa ic se lc rm w q ih vd ro no : Nat → Int32), iv_I (N + 1) p e st ni cr hc lo hi wa ic se lc rm w q no → post (C, T, F, K, rc, st, rs, ti, ni, cr, hc, nk, ms, ei, us, dn, sa, fi, lo, hi, wa, ic, se, lc, rm, w, q, ih, vd, ro, no))) : wpX_receiveRequest post (C, T, F, K, rc, st, rs, ti, ni, cr, hc, nk, ms, ei, us, dn, sa, fi, lo, hi, wa, ic, se, lc, rm, w, q, ih, vd, ro, no) P := by
  have hp := pp_lt HP
  have pv := pp_v HP
  obtain ⟨z, hz8, ez⟩ := VQ p hp
  have KN := iv_K_N (Nat.le_succ N) hN KK
  unfold wpX_receiveRequest
  refine ⟨pv, ?_⟩
  rw [pp_n HP, hM 1 (by decide)]
  by_cases c : hc p ≤ M 1
  · obtain ⟨K1, Fp1, Fe1, hcp, hq⟩ := iv_hc pq KK Fp Fe I m01 c
    refine br_t c ⟨pv, nm_e ⟨pv, ?_⟩⟩
    by_cases c3 : st p = 3
    · have s3 : s = 3 := by
        rw [es] at c3
        exact (nI_eq (b := 3) (by omega) (by decide)).mp c3
      subst s3
      have S0 := iv_start pq Fe1
      refine br_t c3 (xa_start HP ?_)
      exact ev_cls HP pq hN (pn_VO_in VO) VQ VN K1 es hs9 (iv_F_0 (by decide)) et ht9 S0.2 hM hs2 hcp (fun _ => S0.1) hq H
    · refine br_f c3 ?_
      exact ev_cls HP pq hN VO VQ VN K1 es hs9 Fp1 et ht9 Fe1 hM hs2 hcp (fun z => absurd (by rw [es, z]; rfl) c3) hq H
  · refine br_f c ?_
    exact H _ _ _ _ _ _ _ _ _ _ _ _ _ _ _ _ _ _ _ _ _ _ _ _ _ _ _ _ _ _ _ (iv_ms VO VQ VN KN hs9 Fp es et ht9 Fe)
theorem xs_loc (HP : pn_P P p) {n k : Nat} (hk : k < 4) (h : wX_receiveAck_33 post P C T F K rc n (nI (k + 1)) st rs ti ni cr hc nk ms ei us dn sa fi lo hi wa ic se (upd lc (p * 4 + k) (se (p * 4 + k))) rm w q ih vd ro no) : wX_receiveAck_33 post P C T F K rc (n + 1) (nI k) st rs ti ni cr hc nk ms ei us dn sa fi lo hi wa ic se lc rm w q ih vd ro no := by
  refine br_f (pp_g4 hk) ?_
  rw [pp_4 HP hk]
  exact ⟨pp_v4 HP hk, pp_v4 HP hk, nm_e (nm_r (nI_1 k) h)⟩
theorem xa_loc (HP : pn_P P p) (h : wX_receiveAck_64 post P C T F K rc st rs ti ni cr hc nk ms ei us dn sa fi lo hi wa ic se (pn_4 lc (p * 4) (fun k => se (p * 4 + k))) rm w q ih vd ro no) : ∃ n, wX_receiveAck_33 post P C T F K rc n 0 st rs ti ni cr hc nk ms ei us dn sa fi lo hi wa ic se lc rm w q ih vd ro no :=
  ⟨5, xs_loc HP (k := 0) (by decide) (xs_loc HP (k := 1) (by decide) (xs_loc HP (k := 2) (by decide) (xs_loc HP (k := 3) (by decide) (br_t pp_44 h))))⟩
theorem ev_rack (HP : pn_P P p) (pq : p + e = 1) (hN : N + 1 < 2 ^ 31) (VO : pn_VO lo hi ic) (VQ : pn_VQ q) (VN : pn_VN no) (KK : iv_K N ni cr hc se rm w q p e) (es : st p = nI s) (hs9 : s ≤ 9) (Fp : iv_F cr hc lo hi wa ic se lc rm s p e) (et : st e = nI t) (ht9 : t ≤ 9) (Fe : iv_F cr hc lo hi wa ic se lc rm t e p) (hM : ∀ f, f < 7 → ih f = M f) (hs2 : 2 ≤ s) (m02 : M 0 = 2) (I : iv_m cr hc se rm e p M) (H : (∀ (C T F K rc : Int32) (st rs ti ni cr hc nk ms ei us dn sa fi lo hi wa ic se lc rm w q ih vd ro no : Nat → Int32), iv_I (N + 1) p e st ni cr hc lo hi wa ic se lc rm w q no → post (C, T, F, K, rc, st, rs, ti, ni, cr, hc, nk, ms, ei, us, dn, sa, fi, lo, hi, wa, ic, se, lc, rm, w, q, ih, vd, ro, no))) : wpX_receiveAck post (C, T, F, K, rc, st, rs, ti, ni, cr, hc, nk, ms, ei, us, dn, sa, fi, lo, hi, wa, ic, se, lc, rm, w, q, ih, vd, ro, no) P := by
  have hp := pp_lt HP
  have pv := pp_v HP
  obtain ⟨z, hz8, ez⟩ := VQ p hp
  have KN := iv_K_N (Nat.le_succ N) hN KK
  unfold wpX_receiveAck
  refine xa_vA HP hM ?_
  by_cases c0 : pn_gA M se p (if M 1 = cr p then 1 else 0) = 0
  · refine br_t c0 ?_
    exact H _ _ _ _ _ _ _ _ _ _ _ _ _ _ _ _ _ _ _ _ _ _ _ _ _ _ _ _ _ _ _ (iv_ms VO VQ VN KN hs9 Fp es et ht9 Fe)
  · have m1 : M 1 = cr p := by
      by_cases c : M 1 = cr p
      · exact c
      · exact absurd (if_neg c) (iv_gA c0)
    have S := iv_lc pq KK Fe I m02 m1
    refine br_f c0 ⟨pv, ?_⟩
    rw [pp_n HP]
    have go : (s = 6 ∨ s = 8) → wX_receiveAck_64 post P C T F K rc st rs ti ni cr hc nk ms ei us dn sa fi lo hi wa ic se (pn_4 lc (p * 4) (fun k => se (p * 4 + k))) rm w q ih vd ro no := by
      intro h68
      unfold wX_receiveAck_64
      exact ev_ack HP pq hN VO VQ VN KK es hs9 (iv_F_lc Fp (by omega)) et ht9 S.2 hM hs2 (fun _ => S.1) H
    by_cases c6 : st p = 6
    · have s6 : s = 6 := by
        rw [es] at c6
        exact (nI_eq (b := 6) (by omega) (by decide)).mp c6
      exact br_t c6 (xa_loc HP (go (Or.inl s6)))
    · refine br_f c6 ⟨pv, ?_⟩
      by_cases c8 : st p = 8
      · have s8 : s = 8 := by
          rw [es] at c8
          exact (nI_eq (b := 8) (by omega) (by decide)).mp c8
        exact br_t c8 (xa_loc HP (go (Or.inr s8)))
      · refine br_f c8 ?_
        unfold wX_receiveAck_64
        refine ev_ack HP pq hN VO VQ VN KK es hs9 Fp et ht9 Fe hM hs2 (fun zz => ?_) H
        rcases zz with zz | zz
        · exact absurd (by rw [es, zz]; rfl) c6
        · exact absurd (by rw [es, zz]; rfl) c8
theorem rv_all (HP : pn_P P p) (pq : p + e = 1) (hN : N + 1 < 2 ^ 31) (VO : pn_VO lo hi ic) (VQ : pn_VQ q) (VN : pn_VN no) (KK : iv_K N ni cr hc se rm w q p e) (es : st p = nI s) (hs9 : s ≤ 9) (Fp : iv_F cr hc lo hi wa ic se lc rm s p e) (et : st e = nI t) (ht9 : t ≤ 9) (Fe : iv_F cr hc lo hi wa ic se lc rm t e p) (hM : ∀ f, f < 7 → ih f = M f) (hs2 : 2 ≤ s) (I : iv_m cr hc se rm e p M) (H : (∀ (C T F K rc : Int32) (st rs ti ni cr hc nk ms ei us dn sa fi lo hi wa ic se lc rm w q ih vd ro no : Nat → Int32), iv_I (N + 1) p e st ni cr hc lo hi wa ic se lc rm w q no → post (C, T, F, K, rc, st, rs, ti, ni, cr, hc, nk, ms, ei, us, dn, sa, fi, lo, hi, wa, ic, se, lc, rm, w, q, ih, vd, ro, no))) : wpX_receive post (C, T, F, K, rc, st, rs, ti, ni, cr, hc, nk, ms, ei, us, dn, sa, fi, lo, hi, wa, ic, se, lc, rm, w, q, ih, vd, ro, no) P := by
  have hp := pp_lt HP
  have pv := pp_v HP
  obtain ⟨z, hz8, ez⟩ := VQ p hp
  have KN := iv_K_N (Nat.le_succ N) hN KK
  have x0 := hM 0 (by decide)
  have hh := pn_codes (M 0)
  unfold wpX_receive
  rcases hh with c | c | c | c | c | c | c | c | c | c | c | c | c
  · refine nm_e (br_t (by rw [x0]; exact c) ?_)
    unfold wX_receive_144
    exact ev_scj HP pq hN VO VQ VN KK es hs9 Fp et ht9 Fe hM hs2 H
  · refine nm_e (br_f (by rw [x0]; exact pn_gt1 c) (br_t (by rw [x0]; exact c) ?_))
    unfold wX_receive_144
    exact ev_scj HP pq hN VO VQ VN KK es hs9 Fp et ht9 Fe hM hs2 H
  · refine nm_e ?_
    rw [x0, c]
    refine (br_f (by decide) (br_f (by decide) (br_t (by decide) ?_)))
    exact ev_req HP pq hN VO VQ VN KK es hs9 Fp et ht9 Fe hM hs2 c I H
  · refine nm_e ?_
    rw [x0, c]
    refine (br_f (by decide) (br_f (by decide) (br_f (by decide) (br_t (by decide) ?_))))
    exact ev_rack HP pq hN VO VQ VN KK es hs9 Fp et ht9 Fe hM hs2 c I H
  · refine nm_e ?_
    rw [x0, c]
    refine (br_f (by decide) (br_f (by decide) (br_f (by decide) (br_f (by decide) (br_t (by decide) ?_)))))
    refine xa_vN HP hM ?_
    refine br_c (fun _ => ?_) (fun _ => ?_)
    · exact H _ _ _ _ _ _ _ _ _ _ _ _ _ _ _ _ _ _ _ _ _ _ _ _ _ _ _ _ _ _ _ (iv_ms VO VQ VN KN hs9 Fp es et ht9 Fe)
    · exact ev_ref HP pq hN VO VQ VN KK es hs9 Fp et ht9 Fe hM hs2 H
  · refine nm_e ?_
    rw [x0, c]
    refine (br_f (by decide) (br_f (by decide) (br_f (by decide) (br_f (by decide) (br_f (by decide) (br_t (by decide) ?_))))))
    refine xa_vR HP hM ?_
    refine br_c (fun _ => ?_) (fun _ => ?_)
    · exact H _ _ _ _ _ _ _ _ _ _ _ _ _ _ _ _ _ _ _ _ _ _ _ _ _ _ _ _ _ _ _ (iv_ms VO VQ VN KN hs9 Fp es et ht9 Fe)
    · exact ev_ref HP pq hN VO VQ VN KK es hs9 Fp et ht9 Fe hM hs2 H
  · refine nm_e ?_
    rw [x0, c]
    refine (br_f (by decide) (br_f (by decide) (br_f (by decide) (br_f (by decide) (br_f (by decide) (br_f (by decide) (br_t (by decide) ?_)))))))
    exact ev_rtr HP pq hN VO VQ VN KK es hs9 Fp et ht9 Fe hM hs2 H
  · refine nm_e ?_
    rw [x0, c]
    refine (br_f (by decide) (br_f (by decide) (br_f (by decide) (br_f (by decide) (br_f (by decide) (br_f (by decide) (br_f (by decide) (br_t (by decide) ?_))))))))
    exact ev_rta HP pq hN VO VQ VN KK es hs9 Fp et ht9 Fe hM hs2 H
  · refine nm_e ?_
    rw [x0, c]
    refine (br_f (by decide) (br_f (by decide) (br_f (by decide) (br_f (by decide) (br_f (by decide) (br_f (by decide) (br_f (by decide) (br_f (by decide) (br_t (by decide) ?_)))))))))
    have x2 := hM 2 (by decide)
    by_cases b1 : M 2 < 1
    · unfold wpX_onCodeReject
      refine nm_e (br_t (by rw [x2]; exact b1) ?_)
      exact ev_rxp HP pq hN VO VQ VN KK es hs9 Fp et ht9 Fe H
    · by_cases b7 : M 2 ≤ 7
      · exact ev_rxj HP pq hN VO VQ VN KK es hs9 Fp et ht9 Fe hM hs2 b1 b7 H
      · unfold wpX_onCodeReject
        refine nm_e (br_f (by rw [x2]; exact b1) (br_f (by rw [x2]; exact b7) ?_))
        exact ev_rxp HP pq hN VO VQ VN KK es hs9 Fp et ht9 Fe H
  · refine nm_e ?_
    rw [x0, c]
    refine (br_f (by decide) (br_f (by decide) (br_f (by decide) (br_f (by decide) (br_f (by decide) (br_f (by decide) (br_f (by decide) (br_f (by decide) (br_f (by decide) (br_t (by decide) ?_))))))))))
    unfold wX_receive_144
    exact ev_scj HP pq hN VO VQ VN KK es hs9 Fp et ht9 Fe hM hs2 H
  · refine nm_e ?_
    rw [x0, c]
    refine (br_f (by decide) (br_f (by decide) (br_f (by decide) (br_f (by decide) (br_f (by decide) (br_f (by decide) (br_f (by decide) (br_f (by decide) (br_f (by decide) (br_f (by decide) (br_t (by decide) ?_)))))))))))
    unfold wX_receive_136
    exact ev_ka HP pq hN VO VQ VN KK es hs9 Fp et ht9 Fe hM hs2 H
  · refine nm_e ?_
    rw [x0, c]
    refine (br_f (by decide) (br_f (by decide) (br_f (by decide) (br_f (by decide) (br_f (by decide) (br_f (by decide) (br_f (by decide) (br_f (by decide) (br_f (by decide) (br_f (by decide) (br_f (by decide) (br_t (by decide) ?_))))))))))))
    unfold wX_receive_136
    exact ev_ka HP pq hN VO VQ VN KK es hs9 Fp et ht9 Fe hM hs2 H
  · refine nm_e ?_
    rw [x0, c]
    refine (br_f (by decide) (br_f (by decide) (br_f (by decide) (br_f (by decide) (br_f (by decide) (br_f (by decide) (br_f (by decide) (br_f (by decide) (br_f (by decide) (br_f (by decide) (br_f (by decide) (br_f (by decide) (br_t (by decide) ?_)))))))))))))
    unfold wX_receive_136
    exact ev_ka HP pq hN VO VQ VN KK es hs9 Fp et ht9 Fe hM hs2 H
end RV
