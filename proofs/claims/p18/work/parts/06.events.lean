theorem iv_K_c {ni cr hc se rm w q : Nat → Int32} {N d e s : Nat} (pq : d + e = 1) {c i x0 x1 x2 x3 dt : Int32} (hs : q d = nI s) (hs8 : s ≤ 8) (K : iv_K N ni cr hc se rm w q d e) (h1 : ¬ c = 1) (h2 : ¬ c = 2) : iv_K N ni cr hc se rm (pn_aw w q d c i dt x0 x1 x2 x3) (pn_aq q d) d e := iv_K_app pq hs hs8 K (iv_m_no h1 h2)
theorem iv_ni {ni cr hc se rm w q : Nat → Int32} {N d e : Nat} (pq : d + e = 1) (hN : N + 1 < 2 ^ 31) (K : iv_K N ni cr hc se rm w q d e) : iv_K (N + 1) (upd ni d (ni d + 1)) cr hc se rm w q d e := by
  obtain ⟨⟨n1, n2, n3, n4⟩, ⟨k1, k2, k3, k4⟩, W⟩ := K
  have ne : e ≠ d := by omega
  refine ⟨⟨n1, ?_, ?_, n4⟩, ⟨k1, ?_, ?_, k4⟩, W⟩
  · rw [pn_at]; exact (iv_succ n2 n3 hN).1
  · rw [pn_at]; exact (iv_up (Int32.le_trans n1 n2) n3 hN).1
  · rw [pn_ne _ _ ne]; exact k2
  · rw [pn_ne _ _ ne]; exact Int32.le_trans k3 (nI_le (Nat.le_succ N) hN)
theorem iv_hq {cr se R g : Nat → Int32} {d e : Nat} {i x : Int32} (pq : d + e = 1) (hq : i = cr e → ∀ k, k < 4 → R k = se (e * 4 + k)) : i = upd cr d x e → ∀ k, k < 4 → R k = pn_4 se (d * 4) g (e * 4 + k) := by
  rw [pn_ne _ _ (by omega)]
  intro z k hk
  rw [pn_4_ne _ _ (by omega)]
  exact hq z k hk
theorem iv_F_r {cr hc lo hi wa ic se lc rm rm2 : Nat → Int32} {d e : Nat} (I : iv_F cr hc lo hi wa ic se lc rm 6 d e) : iv_F cr hc lo hi wa ic se lc rm2 6 d e :=
  ⟨I.1, I.2.1, fun z => absurd z (by decide), fun z => absurd z (by decide)⟩
theorem iv_F_l {cr hc lo hi wa ic se lc lc2 rm : Nat → Int32} {d e : Nat} (I : iv_F cr hc lo hi wa ic se lc rm 6 d e) : iv_F cr hc lo hi wa ic se lc2 rm 6 d e :=
  ⟨I.1, I.2.1, fun z => absurd z (by decide), fun z => absurd z (by decide)⟩
theorem iv_D_r {cr hc se lc rm rm2 : Nat → Int32} {d e : Nat} (D : iv_D cr hc se lc rm d e) (h : ∀ k, k < 4 → rm2 (e * 4 + k) = rm (e * 4 + k)) : iv_D cr hc se lc rm2 d e :=
  ⟨D.1, fun k hk => ⟨(D.2 k hk).1, (h k hk).trans (D.2 k hk).2⟩⟩
def iv_I (N p e : Nat) (st ni cr hc lo hi wa ic se lc rm w q no : Nat → Int32) : Prop := pn_VO lo hi ic ∧ pn_VQ q ∧ pn_VN no ∧ iv_K N ni cr hc se rm w q p e ∧ ∃ s t : Nat, s ≤ 9 ∧ t ≤ 9 ∧ st p = nI s ∧ st e = nI t ∧ iv_F cr hc lo hi wa ic se lc rm s p e ∧ iv_F cr hc lo hi wa ic se lc rm t e p
theorem iv_mk {st ni cr hc lo hi wa ic se lc rm w q no : Nat → Int32} {N p e n t : Nat} (pq : p + e = 1) (VO : pn_VO lo hi ic) (VQ : pn_VQ q) (VN : pn_VN no) (K : iv_K N ni cr hc se rm w q p e) (hn : n ≤ 9) (Fp : iv_F cr hc lo hi wa ic se lc rm n p e) (et : st e = nI t) (ht : t ≤ 9) (Fe : iv_F cr hc lo hi wa ic se lc rm t e p) : iv_I N p e (upd st p (nI n)) ni cr hc lo hi wa ic se lc rm w q no :=
  ⟨VO, VQ, VN, K, n, t, hn, ht, pn_at _ _ _, (pn_ne _ _ (by omega)).trans et, Fp, Fe⟩
theorem iv_ms {st ni cr hc lo hi wa ic se lc rm w q no : Nat → Int32} {N p e n t : Nat} (VO : pn_VO lo hi ic) (VQ : pn_VQ q) (VN : pn_VN no) (K : iv_K N ni cr hc se rm w q p e) (hn : n ≤ 9) (Fp : iv_F cr hc lo hi wa ic se lc rm n p e) (es : st p = nI n) (et : st e = nI t) (ht : t ≤ 9) (Fe : iv_F cr hc lo hi wa ic se lc rm t e p) : iv_I N p e st ni cr hc lo hi wa ic se lc rm w q no :=
  ⟨VO, VQ, VN, K, n, t, hn, ht, es, et, Fp, Fe⟩
section EV
variable {C T F K rc : Int32} {st rs ti ni cr hc nk ms ei us dn sa fi lo hi wa ic se lc rm w q ih vd ro no : Nat → Int32} {P : Int32} {p : Nat} {post : St2 → Prop}
variable {M R : Nat → Int32} {N e s t : Nat}
theorem ev_open (HP : pn_P P p) (pq : p + e = 1) (hN : N + 1 < 2 ^ 31) (VO : pn_VO lo hi ic) (VQ : pn_VQ q) (VN : pn_VN no) (KK : iv_K N ni cr hc se rm w q p e) (es : st p = nI s) (hs9 : s ≤ 9) (Fp : iv_F cr hc lo hi wa ic se lc rm s p e) (et : st e = nI t) (ht9 : t ≤ 9) (Fe : iv_F cr hc lo hi wa ic se lc rm t e p) (H : (∀ (C T F K rc : Int32) (st rs ti ni cr hc nk ms ei us dn sa fi lo hi wa ic se lc rm w q ih vd ro no : Nat → Int32), iv_I (N + 1) p e st ni cr hc lo hi wa ic se lc rm w q no → post (C, T, F, K, rc, st, rs, ti, ni, cr, hc, nk, ms, ei, us, dn, sa, fi, lo, hi, wa, ic, se, lc, rm, w, q, ih, vd, ro, no))) : wpX_onOpen post (C, T, F, K, rc, st, rs, ti, ni, cr, hc, nk, ms, ei, us, dn, sa, fi, lo, hi, wa, ic, se, lc, rm, w, q, ih, vd, ro, no) P := by
  have hp := pp_lt HP
  have pv := pp_v HP
  obtain ⟨z, hz8, ez⟩ := VQ p hp
  obtain ⟨z2, hz82, ez2⟩ := (pn_VQ_a VQ hp) p hp
  have KN := iv_K_N (Nat.le_succ N) hN KK
  unfold wpX_onOpen
  refine ⟨pv, ?_⟩
  rw [pp_n HP]
  have hcase : s = 0 ∨ s = 1 ∨ s = 2 ∨ s = 3 ∨ s = 4 ∨ s = 5 ∨ s = 6 ∨ s = 7 ∨ s = 8 ∨ s = 9 := by omega
  rcases hcase with rfl | rfl | rfl | rfl | rfl | rfl | rfl | rfl | rfl | rfl
  · have e0 : st p = 0 := es
    rw [e0]
    refine (nm_e (br_f (by decide) (br_f (by decide) (br_t (by decide) ⟨pv, ⟨pv, (nm_e ⟨pv, (nm_e ?_)⟩)⟩⟩))))
    refine H _ _ _ _ _ _ _ _ _ _ _ _ _ _ _ _ _ _ _ _ _ _ _ _ _ _ _ _ _ _ _ ?_
    exact iv_mk (n := 1) pq VO VQ VN KN (by decide) (iv_F_0 (by decide)) et ht9 Fe
  · have e0 : st p = 1 := es
    rw [e0]
    refine (nm_e (br_f (by decide) (br_f (by decide) (br_f (by decide) (br_t (by decide) ?_)))))
    refine H _ _ _ _ _ _ _ _ _ _ _ _ _ _ _ _ _ _ _ _ _ _ _ _ _ _ _ _ _ _ _ ?_
    exact iv_ms (n := 1) VO VQ VN KN (by decide) (iv_F_0 (by decide)) es et ht9 Fe
  · have e0 : st p = 2 := es
    rw [e0]
    refine (nm_e (br_f (by decide) (br_f (by decide) (br_f (by decide) (br_f (by decide) (br_t (by decide) (xa_breq HP ez hz8 ?_)))))))
    refine H _ _ _ _ _ _ _ _ _ _ _ _ _ _ _ _ _ _ _ _ _ _ _ _ _ _ _ _ _ _ _ ?_
    have S0 := iv_start (d := p) pq Fe
    have S1 := iv_scr (d := p) pq ez hz8 hN KK S0.1 S0.2
    exact iv_mk (n := 6) pq (pn_VO_in VO) (pn_VQ_a VQ hp) VN S1.1 (by decide) S1.2.1 et ht9 S1.2.2
  · have e0 : st p = 3 := es
    rw [e0]
    refine (nm_e (br_f (by decide) (br_f (by decide) (br_f (by decide) (br_f (by decide) (br_f (by decide) (br_t (by decide) ?_)))))))
    refine H _ _ _ _ _ _ _ _ _ _ _ _ _ _ _ _ _ _ _ _ _ _ _ _ _ _ _ _ _ _ _ ?_
    exact iv_ms (n := 3) VO VQ VN KN (by decide) (iv_F_0 (by decide)) es et ht9 Fe
  · have e0 : st p = 4 := es
    rw [e0]
    refine (nm_e (br_f (by decide) (br_f (by decide) (br_f (by decide) (br_f (by decide) (br_f (by decide) (br_f (by decide) (br_t (by decide) ⟨pv, (nm_e ?_)⟩))))))))
    refine H _ _ _ _ _ _ _ _ _ _ _ _ _ _ _ _ _ _ _ _ _ _ _ _ _ _ _ _ _ _ _ ?_
    exact iv_mk (n := 5) pq VO VQ VN KN (by decide) (iv_F_le Fp (by decide) (by decide) (by decide) (by decide)) et ht9 Fe
  · have e0 : st p = 5 := es
    rw [e0]
    refine (nm_e (br_f (by decide) (br_t (by decide) ?_)))
    refine H _ _ _ _ _ _ _ _ _ _ _ _ _ _ _ _ _ _ _ _ _ _ _ _ _ _ _ _ _ _ _ ?_
    exact iv_ms (n := 5) VO VQ VN KN (by decide) Fp es et ht9 Fe
  · have e0 : st p = 6 := es
    rw [e0]
    refine (nm_e (br_f (by decide) (br_t (by decide) ?_)))
    refine H _ _ _ _ _ _ _ _ _ _ _ _ _ _ _ _ _ _ _ _ _ _ _ _ _ _ _ _ _ _ _ ?_
    exact iv_ms (n := 6) VO VQ VN KN (by decide) Fp es et ht9 Fe
  · have e0 : st p = 7 := es
    rw [e0]
    refine (nm_e (br_f (by decide) (br_t (by decide) ?_)))
    refine H _ _ _ _ _ _ _ _ _ _ _ _ _ _ _ _ _ _ _ _ _ _ _ _ _ _ _ _ _ _ _ ?_
    exact iv_ms (n := 7) VO VQ VN KN (by decide) Fp es et ht9 Fe
  · have e0 : st p = 8 := es
    rw [e0]
    refine (nm_e (br_f (by decide) (br_t (by decide) ?_)))
    refine H _ _ _ _ _ _ _ _ _ _ _ _ _ _ _ _ _ _ _ _ _ _ _ _ _ _ _ _ _ _ _ ?_
    exact iv_ms (n := 8) VO VQ VN KN (by decide) Fp es et ht9 Fe
  · have e0 : st p = 9 := es
    rw [e0]
    refine (nm_e (br_f (by decide) (br_t (by decide) ?_)))
    refine H _ _ _ _ _ _ _ _ _ _ _ _ _ _ _ _ _ _ _ _ _ _ _ _ _ _ _ _ _ _ _ ?_
    exact iv_ms (n := 9) VO VQ VN KN (by decide) Fp es et ht9 Fe
theorem ev_close (HP : pn_P P p) (pq : p + e = 1) (hN : N + 1 < 2 ^ 31) (VO : pn_VO lo hi ic) (VQ : pn_VQ q) (VN : pn_VN no) (KK : iv_K N ni cr hc se rm w q p e) (es : st p = nI s) (hs9 : s ≤ 9) (Fp : iv_F cr hc lo hi wa ic se lc rm s p e) (et : st e = nI t) (ht9 : t ≤ 9) (Fe : iv_F cr hc lo hi wa ic se lc rm t e p) (H : (∀ (C T F K rc : Int32) (st rs ti ni cr hc nk ms ei us dn sa fi lo hi wa ic se lc rm w q ih vd ro no : Nat → Int32), iv_I (N + 1) p e st ni cr hc lo hi wa ic se lc rm w q no → post (C, T, F, K, rc, st, rs, ti, ni, cr, hc, nk, ms, ei, us, dn, sa, fi, lo, hi, wa, ic, se, lc, rm, w, q, ih, vd, ro, no))) : wpX_onClose post (C, T, F, K, rc, st, rs, ti, ni, cr, hc, nk, ms, ei, us, dn, sa, fi, lo, hi, wa, ic, se, lc, rm, w, q, ih, vd, ro, no) P := by
  have hp := pp_lt HP
  have pv := pp_v HP
  obtain ⟨z, hz8, ez⟩ := VQ p hp
  obtain ⟨z2, hz82, ez2⟩ := (pn_VQ_a VQ hp) p hp
  have KN := iv_K_N (Nat.le_succ N) hN KK
  unfold wpX_onClose wX_onClose_96
  refine ⟨pv, ?_⟩
  rw [pp_n HP]
  have hcase : s = 0 ∨ s = 1 ∨ s = 2 ∨ s = 3 ∨ s = 4 ∨ s = 5 ∨ s = 6 ∨ s = 7 ∨ s = 8 ∨ s = 9 := by omega
  rcases hcase with rfl | rfl | rfl | rfl | rfl | rfl | rfl | rfl | rfl | rfl
  · have e0 : st p = 0 := es
    rw [e0]
    refine (nm_e (br_t (by decide) ?_))
    refine H _ _ _ _ _ _ _ _ _ _ _ _ _ _ _ _ _ _ _ _ _ _ _ _ _ _ _ _ _ _ _ ?_
    exact iv_ms (n := 0) VO VQ VN KN (by decide) (iv_F_0 (by decide)) es et ht9 Fe
  · have e0 : st p = 1 := es
    rw [e0]
    refine (nm_e (br_f (by decide) (br_f (by decide) (br_t (by decide) ⟨pv, ⟨pv, (nm_e ⟨pv, (nm_e ?_)⟩)⟩⟩))))
    refine H _ _ _ _ _ _ _ _ _ _ _ _ _ _ _ _ _ _ _ _ _ _ _ _ _ _ _ _ _ _ _ ?_
    exact iv_mk (n := 0) pq VO VQ VN KN (by decide) (iv_F_0 (by decide)) et ht9 Fe
  · have e0 : st p = 2 := es
    rw [e0]
    refine (nm_e (br_f (by decide) (br_f (by decide) (br_f (by decide) (br_t (by decide) ?_)))))
    refine H _ _ _ _ _ _ _ _ _ _ _ _ _ _ _ _ _ _ _ _ _ _ _ _ _ _ _ _ _ _ _ ?_
    exact iv_ms (n := 2) VO VQ VN KN (by decide) (iv_F_0 (by decide)) es et ht9 Fe
  · have e0 : st p = 3 := es
    rw [e0]
    refine (nm_e (br_f (by decide) (br_f (by decide) (br_f (by decide) (br_f (by decide) (br_t (by decide) ⟨pv, (nm_e ?_)⟩))))))
    refine H _ _ _ _ _ _ _ _ _ _ _ _ _ _ _ _ _ _ _ _ _ _ _ _ _ _ _ _ _ _ _ ?_
    exact iv_mk (n := 2) pq VO VQ VN KN (by decide) (iv_F_0 (by decide)) et ht9 Fe
  · have e0 : st p = 4 := es
    rw [e0]
    refine (nm_e (br_f (by decide) (br_f (by decide) (br_f (by decide) (br_f (by decide) (br_f (by decide) (br_t (by decide) ?_)))))))
    refine H _ _ _ _ _ _ _ _ _ _ _ _ _ _ _ _ _ _ _ _ _ _ _ _ _ _ _ _ _ _ _ ?_
    exact iv_ms (n := 4) VO VQ VN KN (by decide) Fp es et ht9 Fe
  · have e0 : st p = 5 := es
    rw [e0]
    refine (nm_e (br_f (by decide) (br_f (by decide) (br_f (by decide) (br_f (by decide) (br_f (by decide) (br_f (by decide) (br_t (by decide) ⟨pv, (nm_e ?_)⟩))))))))
    refine H _ _ _ _ _ _ _ _ _ _ _ _ _ _ _ _ _ _ _ _ _ _ _ _ _ _ _ _ _ _ _ ?_
    exact iv_mk (n := 4) pq VO VQ VN KN (by decide) (iv_F_le Fp (by decide) (by decide) (by decide) (by decide)) et ht9 Fe
  · have e0 : st p = 6 := es
    rw [e0]
    refine (nm_e (br_f (by decide) (br_f (by decide) (br_f (by decide) (br_f (by decide) (br_f (by decide) (br_f (by decide) (br_f (by decide) (br_t (by decide) (xa_bterm HP VN ez hz8 ?_))))))))))
    refine H _ _ _ _ _ _ _ _ _ _ _ _ _ _ _ _ _ _ _ _ _ _ _ _ _ _ _ _ _ _ _ ?_
    exact iv_mk (n := 4) pq VO (pn_VQ_a VQ hp) VN (iv_K_c pq ez hz8 (iv_ni pq hN KK) (by decide) (by decide)) (by decide) (iv_F_le Fp (by decide) (by decide) (by decide) (by decide)) et ht9 Fe
  · have e0 : st p = 7 := es
    rw [e0]
    refine (nm_e (br_f (by decide) (br_f (by decide) (br_f (by decide) (br_f (by decide) (br_f (by decide) (br_f (by decide) (br_f (by decide) (br_f (by decide) (br_t (by decide) (xa_bterm HP VN ez hz8 ?_)))))))))))
    refine H _ _ _ _ _ _ _ _ _ _ _ _ _ _ _ _ _ _ _ _ _ _ _ _ _ _ _ _ _ _ _ ?_
    exact iv_mk (n := 4) pq VO (pn_VQ_a VQ hp) VN (iv_K_c pq ez hz8 (iv_ni pq hN KK) (by decide) (by decide)) (by decide) (iv_F_le Fp (by decide) (by decide) (by decide) (by decide)) et ht9 Fe
  · have e0 : st p = 8 := es
    rw [e0]
    refine (nm_e (br_f (by decide) (br_f (by decide) (br_f (by decide) (br_f (by decide) (br_f (by decide) (br_f (by decide) (br_f (by decide) (br_f (by decide) (br_f (by decide) (br_t (by decide) (xa_bterm HP VN ez hz8 ?_))))))))))))
    refine H _ _ _ _ _ _ _ _ _ _ _ _ _ _ _ _ _ _ _ _ _ _ _ _ _ _ _ _ _ _ _ ?_
    exact iv_mk (n := 4) pq VO (pn_VQ_a VQ hp) VN (iv_K_c pq ez hz8 (iv_ni pq hN KK) (by decide) (by decide)) (by decide) (iv_F_le Fp (by decide) (by decide) (by decide) (by decide)) et ht9 Fe
  · have e0 : st p = 9 := es
    rw [e0]
    refine (nm_e (br_f (by decide) (br_f (by decide) (br_f (by decide) (br_f (by decide) (br_f (by decide) (br_f (by decide) (br_f (by decide) (br_f (by decide) (br_f (by decide) (br_f (by decide) (br_t (by decide) ⟨pv, ⟨pv, (nm_e (xa_bterm HP VN ez hz8 ?_))⟩⟩))))))))))))
    refine H _ _ _ _ _ _ _ _ _ _ _ _ _ _ _ _ _ _ _ _ _ _ _ _ _ _ _ _ _ _ _ ?_
    exact iv_mk (n := 4) pq VO (pn_VQ_a VQ hp) VN (iv_K_c pq ez hz8 (iv_ni pq hN KK) (by decide) (by decide)) (by decide) (iv_F_le Fp (by decide) (by decide) (by decide) (by decide)) et ht9 Fe
theorem ev_good (HP : pn_P P p) (pq : p + e = 1) (hN : N + 1 < 2 ^ 31) (VO : pn_VO lo hi ic) (VQ : pn_VQ q) (VN : pn_VN no) (KK : iv_K N ni cr hc se rm w q p e) (es : st p = nI s) (hs9 : s ≤ 9) (Fp : iv_F cr hc lo hi wa ic se lc rm s p e) (et : st e = nI t) (ht9 : t ≤ 9) (Fe : iv_F cr hc lo hi wa ic se lc rm t e p) (hM : ∀ f, f < 7 → ih f = M f) (hs2 : 2 ≤ s) (hcp : hc p = M 1) (hA : s = 3 → iv_A lo hi wa ic p) (hro : ∀ k, k < 4 → ro k = (fun j => M (3 + j)) k) (hq : M 1 = cr e → ∀ k, k < 4 → (fun j => M (3 + j)) k = se (e * 4 + k)) (hacc : ∀ k, k < 4 → (fun j => M (3 + j)) k = -1 ∨ (lo (p * 4 + k) ≤ (fun j => M (3 + j)) k ∧ (fun j => M (3 + j)) k ≤ hi (p * 4 + k))) (H : (∀ (C T F K rc : Int32) (st rs ti ni cr hc nk ms ei us dn sa fi lo hi wa ic se lc rm w q ih vd ro no : Nat → Int32), iv_I (N + 1) p e st ni cr hc lo hi wa ic se lc rm w q no → post (C, T, F, K, rc, st, rs, ti, ni, cr, hc, nk, ms, ei, us, dn, sa, fi, lo, hi, wa, ic, se, lc, rm, w, q, ih, vd, ro, no))) : wpX_onGoodRequest post (C, T, F, K, rc, st, rs, ti, ni, cr, hc, nk, ms, ei, us, dn, sa, fi, lo, hi, wa, ic, se, lc, rm, w, q, ih, vd, ro, no) P := by
  have hp := pp_lt HP
  have pv := pp_v HP
  obtain ⟨z, hz8, ez⟩ := VQ p hp
  obtain ⟨z2, hz82, ez2⟩ := (pn_VQ_a VQ hp) p hp
  have KN := iv_K_N (Nat.le_succ N) hN KK
  have m1 := hM 1 (by decide)
  unfold wpX_onGoodRequest wX_onGoodRequest_91
  refine ⟨pv, ?_⟩
  rw [pp_n HP]
  have hcase : s = 2 ∨ s = 3 ∨ s = 4 ∨ s = 5 ∨ s = 6 ∨ s = 7 ∨ s = 8 ∨ s = 9 := by omega
  rcases hcase with rfl | rfl | rfl | rfl | rfl | rfl | rfl | rfl
  · have e0 : st p = 2 := es
    rw [e0]
    refine (nm_e (br_f (by decide) (br_f (by decide) (br_t (by decide) (xa_sta HP VN ez hz8 m1 ?_)))))
    refine H _ _ _ _ _ _ _ _ _ _ _ _ _ _ _ _ _ _ _ _ _ _ _ _ _ _ _ _ _ _ _ ?_
    exact iv_ms (n := 2) VO (pn_VQ_a VQ hp) VN (iv_K_c pq ez hz8 KN (by decide) (by decide)) (by decide) (iv_F_0 (by decide)) es et ht9 Fe
  · have e0 : st p = 3 := es
    rw [e0]
    refine (nm_e (br_f (by decide) (br_f (by decide) (br_f (by decide) (br_t (by decide) ⟨pv, (nm_e (xa_scr HP ez hz8 (xa_sca HP ez2 hz82 m1 hro ⟨pv, (nm_e ?_)⟩)))⟩)))))
    refine H _ _ _ _ _ _ _ _ _ _ _ _ _ _ _ _ _ _ _ _ _ _ _ _ _ _ _ _ _ _ _ ?_
    have S1 := iv_scr (d := p) pq ez hz8 hN KK (hA rfl) Fe
    have S2 := iv_sca (d := p) pq ez2 hz82 hcp (iv_hq pq hq) hacc S1.1 S1.2.2
    exact iv_mk (n := 8) pq VO (pn_VQ_a (pn_VQ_a VQ hp) hp) VN S2.1 (by decide) (iv_F_8 (iv_F_r S1.2.1) S2.2.1) et ht9 S2.2.2.1
  · have e0 : st p = 4 := es
    rw [e0]
    refine (nm_e (br_f (by decide) (br_f (by decide) (br_f (by decide) (br_f (by decide) (br_t (by decide) ?_))))))
    refine H _ _ _ _ _ _ _ _ _ _ _ _ _ _ _ _ _ _ _ _ _ _ _ _ _ _ _ _ _ _ _ ?_
    exact iv_ms (n := 4) VO VQ VN KN (by decide) Fp es et ht9 Fe
  · have e0 : st p = 5 := es
    rw [e0]
    refine (nm_e (br_f (by decide) (br_f (by decide) (br_f (by decide) (br_f (by decide) (br_f (by decide) (br_t (by decide) ?_)))))))
    refine H _ _ _ _ _ _ _ _ _ _ _ _ _ _ _ _ _ _ _ _ _ _ _ _ _ _ _ _ _ _ _ ?_
    exact iv_ms (n := 5) VO VQ VN KN (by decide) Fp es et ht9 Fe
  · have e0 : st p = 6 := es
    rw [e0]
    refine (nm_e (br_f (by decide) (br_f (by decide) (br_f (by decide) (br_f (by decide) (br_f (by decide) (br_f (by decide) (br_t (by decide) (xa_sca HP ez hz8 m1 hro ⟨pv, (nm_e ?_)⟩)))))))))
    refine H _ _ _ _ _ _ _ _ _ _ _ _ _ _ _ _ _ _ _ _ _ _ _ _ _ _ _ _ _ _ _ ?_
    have S2 := iv_sca (d := p) pq ez hz8 hcp hq hacc KN Fe
    exact iv_mk (n := 8) pq VO (pn_VQ_a VQ hp) VN S2.1 (by decide) (iv_F_8 (iv_F_r Fp) S2.2.1) et ht9 S2.2.2.1
  · have e0 : st p = 7 := es
    rw [e0]
    refine (nm_e (br_f (by decide) (br_f (by decide) (br_f (by decide) (br_f (by decide) (br_f (by decide) (br_f (by decide) (br_f (by decide) (br_t (by decide) (xa_sca HP ez hz8 m1 hro (xa_tlu HP ⟨pv, (nm_e ?_)⟩)))))))))))
    refine H _ _ _ _ _ _ _ _ _ _ _ _ _ _ _ _ _ _ _ _ _ _ _ _ _ _ _ _ _ _ _ ?_
    have S2 := iv_sca (d := p) pq ez hz8 hcp hq hacc KN Fe
    exact iv_mk (n := 9) pq VO (pn_VQ_a VQ hp) VN S2.1 (by decide) (iv_F_9 (iv_F_r (iv_F_le Fp (by decide) (by decide) (by decide) (by decide))) (iv_D_r (Fp.2.2.1 (by decide)) S2.2.2.2) S2.2.1) et ht9 S2.2.2.1
  · have e0 : st p = 8 := es
    rw [e0]
    refine (nm_e (br_f (by decide) (br_f (by decide) (br_f (by decide) (br_f (by decide) (br_f (by decide) (br_f (by decide) (br_f (by decide) (br_f (by decide) (br_t (by decide) (xa_sca HP ez hz8 m1 hro ⟨pv, (nm_e ?_)⟩)))))))))))
    refine H _ _ _ _ _ _ _ _ _ _ _ _ _ _ _ _ _ _ _ _ _ _ _ _ _ _ _ _ _ _ _ ?_
    have S2 := iv_sca (d := p) pq ez hz8 hcp hq hacc KN Fe
    exact iv_mk (n := 8) pq VO (pn_VQ_a VQ hp) VN S2.1 (by decide) (iv_F_8 (iv_F_r (iv_F_le Fp (by decide) (by decide) (by decide) (by decide))) S2.2.1) et ht9 S2.2.2.1
  · have e0 : st p = 9 := es
    rw [e0]
    refine (nm_e (br_f (by decide) (br_f (by decide) (br_f (by decide) (br_f (by decide) (br_f (by decide) (br_f (by decide) (br_f (by decide) (br_f (by decide) (br_f (by decide) (br_t (by decide) ⟨pv, ⟨pv, (nm_e (xa_scr HP ez hz8 (xa_sca HP ez2 hz82 m1 hro ⟨pv, (nm_e ?_)⟩)))⟩⟩)))))))))))
    refine H _ _ _ _ _ _ _ _ _ _ _ _ _ _ _ _ _ _ _ _ _ _ _ _ _ _ _ _ _ _ _ ?_
    have S1 := iv_scr (d := p) pq ez hz8 hN KK (Fp.1 (by decide)).1 Fe
    have S2 := iv_sca (d := p) pq ez2 hz82 hcp (iv_hq pq hq) hacc S1.1 S1.2.2
    exact iv_mk (n := 8) pq VO (pn_VQ_a (pn_VQ_a VQ hp) hp) VN S2.1 (by decide) (iv_F_8 (iv_F_r S1.2.1) S2.2.1) et ht9 S2.2.2.1
theorem ev_bad (HP : pn_P P p) (pq : p + e = 1) (hN : N + 1 < 2 ^ 31) (VO : pn_VO lo hi ic) (VQ : pn_VQ q) (VN : pn_VN no) (KK : iv_K N ni cr hc se rm w q p e) (es : st p = nI s) (hs9 : s ≤ 9) (Fp : iv_F cr hc lo hi wa ic se lc rm s p e) (et : st e = nI t) (ht9 : t ≤ 9) (Fe : iv_F cr hc lo hi wa ic se lc rm t e p) (hM : ∀ f, f < 7 → ih f = M f) (hs2 : 2 ≤ s) (hcp : hc p = M 1) (hA : s = 3 → iv_A lo hi wa ic p) (hro : ∀ k, k < 4 → ro k = R k) (hrc1 : ¬ rc = 1) (hrc2 : ¬ rc = 2) (H : (∀ (C T F K rc : Int32) (st rs ti ni cr hc nk ms ei us dn sa fi lo hi wa ic se lc rm w q ih vd ro no : Nat → Int32), iv_I (N + 1) p e st ni cr hc lo hi wa ic se lc rm w q no → post (C, T, F, K, rc, st, rs, ti, ni, cr, hc, nk, ms, ei, us, dn, sa, fi, lo, hi, wa, ic, se, lc, rm, w, q, ih, vd, ro, no))) : wpX_onBadRequest post (C, T, F, K, rc, st, rs, ti, ni, cr, hc, nk, ms, ei, us, dn, sa, fi, lo, hi, wa, ic, se, lc, rm, w, q, ih, vd, ro, no) P := by
  have hp := pp_lt HP
  have pv := pp_v HP
  obtain ⟨z, hz8, ez⟩ := VQ p hp
  obtain ⟨z2, hz82, ez2⟩ := (pn_VQ_a VQ hp) p hp
  have KN := iv_K_N (Nat.le_succ N) hN KK
  have m1 := hM 1 (by decide)
  unfold wpX_onBadRequest wX_onBadRequest_91
  refine ⟨pv, ?_⟩
  rw [pp_n HP]
  have hcase : s = 2 ∨ s = 3 ∨ s = 4 ∨ s = 5 ∨ s = 6 ∨ s = 7 ∨ s = 8 ∨ s = 9 := by omega
  rcases hcase with rfl | rfl | rfl | rfl | rfl | rfl | rfl | rfl
  · have e0 : st p = 2 := es
    rw [e0]
    refine (nm_e (br_f (by decide) (br_f (by decide) (br_t (by decide) (xa_sta HP VN ez hz8 m1 ?_)))))
    refine H _ _ _ _ _ _ _ _ _ _ _ _ _ _ _ _ _ _ _ _ _ _ _ _ _ _ _ _ _ _ _ ?_
    exact iv_ms (n := 2) VO (pn_VQ_a VQ hp) VN (iv_K_c pq ez hz8 KN (by decide) (by decide)) (by decide) (iv_F_0 (by decide)) es et ht9 Fe
  · have e0 : st p = 3 := es
    rw [e0]
    refine (nm_e (br_f (by decide) (br_f (by decide) (br_f (by decide) (br_t (by decide) ⟨pv, (nm_e (xa_scr HP ez hz8 (xa_scn HP ez2 hz82 m1 hro ⟨pv, (nm_e ?_)⟩)))⟩)))))
    refine H _ _ _ _ _ _ _ _ _ _ _ _ _ _ _ _ _ _ _ _ _ _ _ _ _ _ _ _ _ _ _ ?_
    have S1 := iv_scr (d := p) pq ez hz8 hN KK (hA rfl) Fe
    exact iv_mk (n := 6) pq VO (pn_VQ_a (pn_VQ_a VQ hp) hp) VN (iv_K_c pq ez2 hz82 S1.1 hrc1 hrc2) (by decide) S1.2.1 et ht9 S1.2.2
  · have e0 : st p = 4 := es
    rw [e0]
    refine (nm_e (br_f (by decide) (br_f (by decide) (br_f (by decide) (br_f (by decide) (br_t (by decide) ?_))))))
    refine H _ _ _ _ _ _ _ _ _ _ _ _ _ _ _ _ _ _ _ _ _ _ _ _ _ _ _ _ _ _ _ ?_
    exact iv_ms (n := 4) VO VQ VN KN (by decide) Fp es et ht9 Fe
  · have e0 : st p = 5 := es
    rw [e0]
    refine (nm_e (br_f (by decide) (br_f (by decide) (br_f (by decide) (br_f (by decide) (br_f (by decide) (br_t (by decide) ?_)))))))
    refine H _ _ _ _ _ _ _ _ _ _ _ _ _ _ _ _ _ _ _ _ _ _ _ _ _ _ _ _ _ _ _ ?_
    exact iv_ms (n := 5) VO VQ VN KN (by decide) Fp es et ht9 Fe
  · have e0 : st p = 6 := es
    rw [e0]
    refine (nm_e (br_f (by decide) (br_f (by decide) (br_f (by decide) (br_f (by decide) (br_f (by decide) (br_f (by decide) (br_t (by decide) (xa_scn HP ez hz8 m1 hro ⟨pv, (nm_e ?_)⟩)))))))))
    refine H _ _ _ _ _ _ _ _ _ _ _ _ _ _ _ _ _ _ _ _ _ _ _ _ _ _ _ _ _ _ _ ?_
    exact iv_mk (n := 6) pq VO (pn_VQ_a VQ hp) VN (iv_K_c pq ez hz8 KN hrc1 hrc2) (by decide) Fp et ht9 Fe
  · have e0 : st p = 7 := es
    rw [e0]
    refine (nm_e (br_f (by decide) (br_f (by decide) (br_f (by decide) (br_f (by decide) (br_f (by decide) (br_f (by decide) (br_f (by decide) (br_t (by decide) (xa_scn HP ez hz8 m1 hro ?_))))))))))
    refine H _ _ _ _ _ _ _ _ _ _ _ _ _ _ _ _ _ _ _ _ _ _ _ _ _ _ _ _ _ _ _ ?_
    exact iv_ms (n := 7) VO (pn_VQ_a VQ hp) VN (iv_K_c pq ez hz8 KN hrc1 hrc2) (by decide) Fp es et ht9 Fe
  · have e0 : st p = 8 := es
    rw [e0]
    refine (nm_e (br_f (by decide) (br_f (by decide) (br_f (by decide) (br_f (by decide) (br_f (by decide) (br_f (by decide) (br_f (by decide) (br_f (by decide) (br_t (by decide) (xa_scn HP ez hz8 m1 hro ⟨pv, (nm_e ?_)⟩)))))))))))
    refine H _ _ _ _ _ _ _ _ _ _ _ _ _ _ _ _ _ _ _ _ _ _ _ _ _ _ _ _ _ _ _ ?_
    exact iv_mk (n := 6) pq VO (pn_VQ_a VQ hp) VN (iv_K_c pq ez hz8 KN hrc1 hrc2) (by decide) (iv_F_le Fp (by decide) (by decide) (by decide) (by decide)) et ht9 Fe
  · have e0 : st p = 9 := es
    rw [e0]
    refine (nm_e (br_f (by decide) (br_f (by decide) (br_f (by decide) (br_f (by decide) (br_f (by decide) (br_f (by decide) (br_f (by decide) (br_f (by decide) (br_f (by decide) (br_t (by decide) ⟨pv, ⟨pv, (nm_e (xa_scr HP ez hz8 (xa_scn HP ez2 hz82 m1 hro ⟨pv, (nm_e ?_)⟩)))⟩⟩)))))))))))
    refine H _ _ _ _ _ _ _ _ _ _ _ _ _ _ _ _ _ _ _ _ _ _ _ _ _ _ _ _ _ _ _ ?_
    have S1 := iv_scr (d := p) pq ez hz8 hN KK (Fp.1 (by decide)).1 Fe
    exact iv_mk (n := 6) pq VO (pn_VQ_a (pn_VQ_a VQ hp) hp) VN (iv_K_c pq ez2 hz82 S1.1 hrc1 hrc2) (by decide) S1.2.1 et ht9 S1.2.2
theorem ev_ack (HP : pn_P P p) (pq : p + e = 1) (hN : N + 1 < 2 ^ 31) (VO : pn_VO lo hi ic) (VQ : pn_VQ q) (VN : pn_VN no) (KK : iv_K N ni cr hc se rm w q p e) (es : st p = nI s) (hs9 : s ≤ 9) (Fp : iv_F cr hc lo hi wa ic se lc rm s p e) (et : st e = nI t) (ht9 : t ≤ 9) (Fe : iv_F cr hc lo hi wa ic se lc rm t e p) (hM : ∀ f, f < 7 → ih f = M f) (hs2 : 2 ≤ s) (hD : s = 6 ∨ s = 8 → iv_D cr hc se lc rm p e) (H : (∀ (C T F K rc : Int32) (st rs ti ni cr hc nk ms ei us dn sa fi lo hi wa ic se lc rm w q ih vd ro no : Nat → Int32), iv_I (N + 1) p e st ni cr hc lo hi wa ic se lc rm w q no → post (C, T, F, K, rc, st, rs, ti, ni, cr, hc, nk, ms, ei, us, dn, sa, fi, lo, hi, wa, ic, se, lc, rm, w, q, ih, vd, ro, no))) : wpX_onAck post (C, T, F, K, rc, st, rs, ti, ni, cr, hc, nk, ms, ei, us, dn, sa, fi, lo, hi, wa, ic, se, lc, rm, w, q, ih, vd, ro, no) P := by
  have hp := pp_lt HP
  have pv := pp_v HP
  obtain ⟨z, hz8, ez⟩ := VQ p hp
  obtain ⟨z2, hz82, ez2⟩ := (pn_VQ_a VQ hp) p hp
  have KN := iv_K_N (Nat.le_succ N) hN KK
  have m1 := hM 1 (by decide)
  unfold wpX_onAck wX_onAck_52
  refine ⟨pv, ?_⟩
  rw [pp_n HP]
  have hcase : s = 2 ∨ s = 3 ∨ s = 4 ∨ s = 5 ∨ s = 6 ∨ s = 7 ∨ s = 8 ∨ s = 9 := by omega
  rcases hcase with rfl | rfl | rfl | rfl | rfl | rfl | rfl | rfl
  · have e0 : st p = 2 := es
    rw [e0]
    refine (nm_e (br_f (by decide) (br_f (by decide) (br_t (by decide) (xa_sta HP VN ez hz8 m1 ?_)))))
    refine H _ _ _ _ _ _ _ _ _ _ _ _ _ _ _ _ _ _ _ _ _ _ _ _ _ _ _ _ _ _ _ ?_
    exact iv_ms (n := 2) VO (pn_VQ_a VQ hp) VN (iv_K_c pq ez hz8 KN (by decide) (by decide)) (by decide) (iv_F_0 (by decide)) es et ht9 Fe
  · have e0 : st p = 3 := es
    rw [e0]
    refine (nm_e (br_f (by decide) (br_f (by decide) (br_f (by decide) (br_t (by decide) (xa_sta HP VN ez hz8 m1 ?_))))))
    refine H _ _ _ _ _ _ _ _ _ _ _ _ _ _ _ _ _ _ _ _ _ _ _ _ _ _ _ _ _ _ _ ?_
    exact iv_ms (n := 3) VO (pn_VQ_a VQ hp) VN (iv_K_c pq ez hz8 KN (by decide) (by decide)) (by decide) (iv_F_0 (by decide)) es et ht9 Fe
  · have e0 : st p = 4 := es
    rw [e0]
    refine (nm_e (br_f (by decide) (br_f (by decide) (br_f (by decide) (br_f (by decide) (br_t (by decide) ?_))))))
    refine H _ _ _ _ _ _ _ _ _ _ _ _ _ _ _ _ _ _ _ _ _ _ _ _ _ _ _ _ _ _ _ ?_
    exact iv_ms (n := 4) VO VQ VN KN (by decide) Fp es et ht9 Fe
  · have e0 : st p = 5 := es
    rw [e0]
    refine (nm_e (br_f (by decide) (br_f (by decide) (br_f (by decide) (br_f (by decide) (br_f (by decide) (br_t (by decide) ?_)))))))
    refine H _ _ _ _ _ _ _ _ _ _ _ _ _ _ _ _ _ _ _ _ _ _ _ _ _ _ _ _ _ _ _ ?_
    exact iv_ms (n := 5) VO VQ VN KN (by decide) Fp es et ht9 Fe
  · have e0 : st p = 6 := es
    rw [e0]
    refine (nm_e (br_f (by decide) (br_f (by decide) (br_f (by decide) (br_f (by decide) (br_f (by decide) (br_f (by decide) (br_t (by decide) ⟨pv, (nm_e ⟨pv, (nm_e ?_)⟩)⟩))))))))
    refine H _ _ _ _ _ _ _ _ _ _ _ _ _ _ _ _ _ _ _ _ _ _ _ _ _ _ _ _ _ _ _ ?_
    exact iv_mk (n := 7) pq VO VQ VN KN (by decide) (iv_F_7 Fp (hD (Or.inl rfl))) et ht9 Fe
  · have e0 : st p = 7 := es
    rw [e0]
    refine (nm_e (br_f (by decide) (br_f (by decide) (br_f (by decide) (br_f (by decide) (br_f (by decide) (br_f (by decide) (br_f (by decide) (br_t (by decide) (xa_scr HP ez hz8 ⟨pv, (nm_e ?_)⟩))))))))))
    refine H _ _ _ _ _ _ _ _ _ _ _ _ _ _ _ _ _ _ _ _ _ _ _ _ _ _ _ _ _ _ _ ?_
    have S1 := iv_scr (d := p) pq ez hz8 hN KK (Fp.1 (by decide)).1 Fe
    exact iv_mk (n := 6) pq VO (pn_VQ_a VQ hp) VN S1.1 (by decide) S1.2.1 et ht9 S1.2.2
  · have e0 : st p = 8 := es
    rw [e0]
    refine (nm_e (br_f (by decide) (br_f (by decide) (br_f (by decide) (br_f (by decide) (br_f (by decide) (br_f (by decide) (br_f (by decide) (br_f (by decide) (br_t (by decide) ⟨pv, (nm_e (xa_tlu HP ⟨pv, (nm_e ?_)⟩))⟩))))))))))
    refine H _ _ _ _ _ _ _ _ _ _ _ _ _ _ _ _ _ _ _ _ _ _ _ _ _ _ _ _ _ _ _ ?_
    exact iv_mk (n := 9) pq VO VQ VN KN (by decide) (iv_F_9 (iv_F_le Fp (by decide) (by decide) (by decide) (by decide)) (hD (Or.inr rfl)) (Fp.2.2.2 (by decide))) et ht9 Fe
  · have e0 : st p = 9 := es
    rw [e0]
    refine (nm_e (br_f (by decide) (br_f (by decide) (br_f (by decide) (br_f (by decide) (br_f (by decide) (br_f (by decide) (br_f (by decide) (br_f (by decide) (br_f (by decide) (br_t (by decide) ⟨pv, ⟨pv, (nm_e (xa_scr HP ez hz8 ⟨pv, (nm_e ?_)⟩))⟩⟩)))))))))))
    refine H _ _ _ _ _ _ _ _ _ _ _ _ _ _ _ _ _ _ _ _ _ _ _ _ _ _ _ _ _ _ _ ?_
    have S1 := iv_scr (d := p) pq ez hz8 hN KK (Fp.1 (by decide)).1 Fe
    exact iv_mk (n := 6) pq VO (pn_VQ_a VQ hp) VN S1.1 (by decide) S1.2.1 et ht9 S1.2.2
theorem ev_ref (HP : pn_P P p) (pq : p + e = 1) (hN : N + 1 < 2 ^ 31) (VO : pn_VO lo hi ic) (VQ : pn_VQ q) (VN : pn_VN no) (KK : iv_K N ni cr hc se rm w q p e) (es : st p = nI s) (hs9 : s ≤ 9) (Fp : iv_F cr hc lo hi wa ic se lc rm s p e) (et : st e = nI t) (ht9 : t ≤ 9) (Fe : iv_F cr hc lo hi wa ic se lc rm t e p) (hM : ∀ f, f < 7 → ih f = M f) (hs2 : 2 ≤ s) (H : (∀ (C T F K rc : Int32) (st rs ti ni cr hc nk ms ei us dn sa fi lo hi wa ic se lc rm w q ih vd ro no : Nat → Int32), iv_I (N + 1) p e st ni cr hc lo hi wa ic se lc rm w q no → post (C, T, F, K, rc, st, rs, ti, ni, cr, hc, nk, ms, ei, us, dn, sa, fi, lo, hi, wa, ic, se, lc, rm, w, q, ih, vd, ro, no))) : wpX_onRefusal post (C, T, F, K, rc, st, rs, ti, ni, cr, hc, nk, ms, ei, us, dn, sa, fi, lo, hi, wa, ic, se, lc, rm, w, q, ih, vd, ro, no) P := by
  have hp := pp_lt HP
  have pv := pp_v HP
  obtain ⟨z, hz8, ez⟩ := VQ p hp
  obtain ⟨z2, hz82, ez2⟩ := (pn_VQ_a VQ hp) p hp
  have KN := iv_K_N (Nat.le_succ N) hN KK
  have m1 := hM 1 (by decide)
  unfold wpX_onRefusal wX_onRefusal_52 wX_onRefusal_60
  refine ⟨pv, ?_⟩
  rw [pp_n HP]
  have hcase : s = 2 ∨ s = 3 ∨ s = 4 ∨ s = 5 ∨ s = 6 ∨ s = 7 ∨ s = 8 ∨ s = 9 := by omega
  rcases hcase with rfl | rfl | rfl | rfl | rfl | rfl | rfl | rfl
  · have e0 : st p = 2 := es
    rw [e0]
    refine (nm_e (br_f (by decide) (br_f (by decide) (br_t (by decide) (xa_sta HP VN ez hz8 m1 ?_)))))
    refine H _ _ _ _ _ _ _ _ _ _ _ _ _ _ _ _ _ _ _ _ _ _ _ _ _ _ _ _ _ _ _ ?_
    exact iv_ms (n := 2) VO (pn_VQ_a VQ hp) VN (iv_K_c pq ez hz8 KN (by decide) (by decide)) (by decide) (iv_F_0 (by decide)) es et ht9 Fe
  · have e0 : st p = 3 := es
    rw [e0]
    refine (nm_e (br_f (by decide) (br_f (by decide) (br_f (by decide) (br_t (by decide) (xa_sta HP VN ez hz8 m1 ?_))))))
    refine H _ _ _ _ _ _ _ _ _ _ _ _ _ _ _ _ _ _ _ _ _ _ _ _ _ _ _ _ _ _ _ ?_
    exact iv_ms (n := 3) VO (pn_VQ_a VQ hp) VN (iv_K_c pq ez hz8 KN (by decide) (by decide)) (by decide) (iv_F_0 (by decide)) es et ht9 Fe
  · have e0 : st p = 4 := es
    rw [e0]
    refine (nm_e (br_f (by decide) (br_f (by decide) (br_f (by decide) (br_f (by decide) (br_t (by decide) ?_))))))
    refine H _ _ _ _ _ _ _ _ _ _ _ _ _ _ _ _ _ _ _ _ _ _ _ _ _ _ _ _ _ _ _ ?_
    exact iv_ms (n := 4) VO VQ VN KN (by decide) Fp es et ht9 Fe
  · have e0 : st p = 5 := es
    rw [e0]
    refine (nm_e (br_f (by decide) (br_f (by decide) (br_f (by decide) (br_f (by decide) (br_f (by decide) (br_t (by decide) ?_)))))))
    refine H _ _ _ _ _ _ _ _ _ _ _ _ _ _ _ _ _ _ _ _ _ _ _ _ _ _ _ _ _ _ _ ?_
    exact iv_ms (n := 5) VO VQ VN KN (by decide) Fp es et ht9 Fe
  · have e0 : st p = 6 := es
    rw [e0]
    refine (nm_e (br_f (by decide) (br_f (by decide) (br_f (by decide) (br_f (by decide) (br_f (by decide) (br_f (by decide) (br_t (by decide) (xa_adopt HP hM ⟨pv, (nm_e (xa_scr HP ez hz8 ?_))⟩)))))))))
    refine H _ _ _ _ _ _ _ _ _ _ _ _ _ _ _ _ _ _ _ _ _ _ _ _ _ _ _ _ _ _ _ ?_
    have S3 := iv_ado (d := p) (c := M 0) (M := M) pq (Fp.1 (by decide)).1 Fe
    have S1 := iv_scr (d := p) pq ez hz8 hN KK S3.1 S3.2
    exact iv_ms (n := 6) (pn_VO_aI VO hp) (pn_VQ_a VQ hp) VN S1.1 (by decide) S1.2.1 es et ht9 S1.2.2
  · have e0 : st p = 7 := es
    rw [e0]
    refine (nm_e (br_f (by decide) (br_f (by decide) (br_f (by decide) (br_f (by decide) (br_f (by decide) (br_f (by decide) (br_f (by decide) (br_t (by decide) (xa_adopt HP hM (xa_scr HP ez hz8 ⟨pv, (nm_e ?_)⟩)))))))))))
    refine H _ _ _ _ _ _ _ _ _ _ _ _ _ _ _ _ _ _ _ _ _ _ _ _ _ _ _ _ _ _ _ ?_
    have S3 := iv_ado (d := p) (c := M 0) (M := M) pq (Fp.1 (by decide)).1 Fe
    have S1 := iv_scr (d := p) pq ez hz8 hN KK S3.1 S3.2
    exact iv_mk (n := 6) pq (pn_VO_aI VO hp) (pn_VQ_a VQ hp) VN S1.1 (by decide) S1.2.1 et ht9 S1.2.2
  · have e0 : st p = 8 := es
    rw [e0]
    refine (nm_e (br_f (by decide) (br_f (by decide) (br_f (by decide) (br_f (by decide) (br_f (by decide) (br_f (by decide) (br_f (by decide) (br_f (by decide) (br_t (by decide) (xa_adopt HP hM ⟨pv, (nm_e (xa_scr HP ez hz8 ?_))⟩)))))))))))
    refine H _ _ _ _ _ _ _ _ _ _ _ _ _ _ _ _ _ _ _ _ _ _ _ _ _ _ _ _ _ _ _ ?_
    have S3 := iv_ado (d := p) (c := M 0) (M := M) pq (Fp.1 (by decide)).1 Fe
    have S1 := iv_scr (d := p) pq ez hz8 hN KK S3.1 S3.2
    exact iv_ms (n := 8) (pn_VO_aI VO hp) (pn_VQ_a VQ hp) VN S1.1 (by decide) (iv_F_8 S1.2.1 (Fp.2.2.2 (by decide))) es et ht9 S1.2.2
  · have e0 : st p = 9 := es
    rw [e0]
    refine (nm_e (br_f (by decide) (br_f (by decide) (br_f (by decide) (br_f (by decide) (br_f (by decide) (br_f (by decide) (br_f (by decide) (br_f (by decide) (br_f (by decide) (br_t (by decide) (xa_adopt HP hM ⟨pv, ⟨pv, (nm_e (xa_scr HP ez hz8 ⟨pv, (nm_e ?_)⟩))⟩⟩))))))))))))
    refine H _ _ _ _ _ _ _ _ _ _ _ _ _ _ _ _ _ _ _ _ _ _ _ _ _ _ _ _ _ _ _ ?_
    have S3 := iv_ado (d := p) (c := M 0) (M := M) pq (Fp.1 (by decide)).1 Fe
    have S1 := iv_scr (d := p) pq ez hz8 hN KK S3.1 S3.2
    exact iv_mk (n := 6) pq (pn_VO_aI VO hp) (pn_VQ_a VQ hp) VN S1.1 (by decide) S1.2.1 et ht9 S1.2.2
theorem ev_rtr (HP : pn_P P p) (pq : p + e = 1) (hN : N + 1 < 2 ^ 31) (VO : pn_VO lo hi ic) (VQ : pn_VQ q) (VN : pn_VN no) (KK : iv_K N ni cr hc se rm w q p e) (es : st p = nI s) (hs9 : s ≤ 9) (Fp : iv_F cr hc lo hi wa ic se lc rm s p e) (et : st e = nI t) (ht9 : t ≤ 9) (Fe : iv_F cr hc lo hi wa ic se lc rm t e p) (hM : ∀ f, f < 7 → ih f = M f) (hs2 : 2 ≤ s) (H : (∀ (C T F K rc : Int32) (st rs ti ni cr hc nk ms ei us dn sa fi lo hi wa ic se lc rm w q ih vd ro no : Nat → Int32), iv_I (N + 1) p e st ni cr hc lo hi wa ic se lc rm w q no → post (C, T, F, K, rc, st, rs, ti, ni, cr, hc, nk, ms, ei, us, dn, sa, fi, lo, hi, wa, ic, se, lc, rm, w, q, ih, vd, ro, no))) : wpX_onTerminateRequest post (C, T, F, K, rc, st, rs, ti, ni, cr, hc, nk, ms, ei, us, dn, sa, fi, lo, hi, wa, ic, se, lc, rm, w, q, ih, vd, ro, no) P := by
  have hp := pp_lt HP
  have pv := pp_v HP
  obtain ⟨z, hz8, ez⟩ := VQ p hp
  obtain ⟨z2, hz82, ez2⟩ := (pn_VQ_a VQ hp) p hp
  have KN := iv_K_N (Nat.le_succ N) hN KK
  have m1 := hM 1 (by decide)
  unfold wpX_onTerminateRequest wX_onTerminateRequest_70 wX_onTerminateRequest_78
  refine ⟨pv, ?_⟩
  rw [pp_n HP]
  have hcase : s = 2 ∨ s = 3 ∨ s = 4 ∨ s = 5 ∨ s = 6 ∨ s = 7 ∨ s = 8 ∨ s = 9 := by omega
  rcases hcase with rfl | rfl | rfl | rfl | rfl | rfl | rfl | rfl
  · have e0 : st p = 2 := es
    rw [e0]
    refine (br_f (by decide) ⟨pv, (br_f (by decide) ⟨pv, (br_f (by decide) (xa_sta HP VN ez hz8 m1 ?_))⟩)⟩)
    refine H _ _ _ _ _ _ _ _ _ _ _ _ _ _ _ _ _ _ _ _ _ _ _ _ _ _ _ _ _ _ _ ?_
    exact iv_ms (n := 2) VO (pn_VQ_a VQ hp) VN (iv_K_c pq ez hz8 KN (by decide) (by decide)) (by decide) (iv_F_0 (by decide)) es et ht9 Fe
  · have e0 : st p = 3 := es
    rw [e0]
    refine (br_f (by decide) ⟨pv, (br_f (by decide) ⟨pv, (br_f (by decide) (xa_sta HP VN ez hz8 m1 ?_))⟩)⟩)
    refine H _ _ _ _ _ _ _ _ _ _ _ _ _ _ _ _ _ _ _ _ _ _ _ _ _ _ _ _ _ _ _ ?_
    exact iv_ms (n := 3) VO (pn_VQ_a VQ hp) VN (iv_K_c pq ez hz8 KN (by decide) (by decide)) (by decide) (iv_F_0 (by decide)) es et ht9 Fe
  · have e0 : st p = 4 := es
    rw [e0]
    refine (br_f (by decide) ⟨pv, (br_f (by decide) ⟨pv, (br_f (by decide) (xa_sta HP VN ez hz8 m1 ?_))⟩)⟩)
    refine H _ _ _ _ _ _ _ _ _ _ _ _ _ _ _ _ _ _ _ _ _ _ _ _ _ _ _ _ _ _ _ ?_
    exact iv_ms (n := 4) VO (pn_VQ_a VQ hp) VN (iv_K_c pq ez hz8 KN (by decide) (by decide)) (by decide) Fp es et ht9 Fe
  · have e0 : st p = 5 := es
    rw [e0]
    refine (br_f (by decide) ⟨pv, (br_f (by decide) ⟨pv, (br_f (by decide) (xa_sta HP VN ez hz8 m1 ?_))⟩)⟩)
    refine H _ _ _ _ _ _ _ _ _ _ _ _ _ _ _ _ _ _ _ _ _ _ _ _ _ _ _ _ _ _ _ ?_
    exact iv_ms (n := 5) VO (pn_VQ_a VQ hp) VN (iv_K_c pq ez hz8 KN (by decide) (by decide)) (by decide) Fp es et ht9 Fe
  · have e0 : st p = 6 := es
    rw [e0]
    refine (br_f (by decide) ⟨pv, (br_f (by decide) ⟨pv, (br_f (by decide) (xa_sta HP VN ez hz8 m1 ?_))⟩)⟩)
    refine H _ _ _ _ _ _ _ _ _ _ _ _ _ _ _ _ _ _ _ _ _ _ _ _ _ _ _ _ _ _ _ ?_
    exact iv_ms (n := 6) VO (pn_VQ_a VQ hp) VN (iv_K_c pq ez hz8 KN (by decide) (by decide)) (by decide) Fp es et ht9 Fe
  · have e0 : st p = 7 := es
    rw [e0]
    refine (br_f (by decide) ⟨pv, (br_t (by decide) ⟨pv, (nm_e (xa_sta HP VN ez hz8 m1 ?_))⟩)⟩)
    refine H _ _ _ _ _ _ _ _ _ _ _ _ _ _ _ _ _ _ _ _ _ _ _ _ _ _ _ _ _ _ _ ?_
    exact iv_mk (n := 6) pq VO (pn_VQ_a VQ hp) VN (iv_K_c pq ez hz8 KN (by decide) (by decide)) (by decide) (iv_F_le Fp (by decide) (by decide) (by decide) (by decide)) et ht9 Fe
  · have e0 : st p = 8 := es
    rw [e0]
    refine (br_f (by decide) ⟨pv, (br_f (by decide) ⟨pv, (br_t (by decide) ⟨pv, (nm_e (xa_sta HP VN ez hz8 m1 ?_))⟩)⟩)⟩)
    refine H _ _ _ _ _ _ _ _ _ _ _ _ _ _ _ _ _ _ _ _ _ _ _ _ _ _ _ _ _ _ _ ?_
    exact iv_mk (n := 6) pq VO (pn_VQ_a VQ hp) VN (iv_K_c pq ez hz8 KN (by decide) (by decide)) (by decide) (iv_F_le Fp (by decide) (by decide) (by decide) (by decide)) et ht9 Fe
  · have e0 : st p = 9 := es
    rw [e0]
    refine (br_t (by decide) ⟨pv, ⟨pv, (nm_e ⟨pv, (nm_e ⟨pv, (nm_e ⟨pv, (nm_e (xa_sta HP VN ez hz8 m1 ?_))⟩)⟩)⟩)⟩⟩)
    refine H _ _ _ _ _ _ _ _ _ _ _ _ _ _ _ _ _ _ _ _ _ _ _ _ _ _ _ _ _ _ _ ?_
    exact iv_mk (n := 5) pq VO (pn_VQ_a VQ hp) VN (iv_K_c pq ez hz8 KN (by decide) (by decide)) (by decide) (iv_F_le Fp (by decide) (by decide) (by decide) (by decide)) et ht9 Fe
theorem ev_rta (HP : pn_P P p) (pq : p + e = 1) (hN : N + 1 < 2 ^ 31) (VO : pn_VO lo hi ic) (VQ : pn_VQ q) (VN : pn_VN no) (KK : iv_K N ni cr hc se rm w q p e) (es : st p = nI s) (hs9 : s ≤ 9) (Fp : iv_F cr hc lo hi wa ic se lc rm s p e) (et : st e = nI t) (ht9 : t ≤ 9) (Fe : iv_F cr hc lo hi wa ic se lc rm t e p) (hM : ∀ f, f < 7 → ih f = M f) (hs2 : 2 ≤ s) (H : (∀ (C T F K rc : Int32) (st rs ti ni cr hc nk ms ei us dn sa fi lo hi wa ic se lc rm w q ih vd ro no : Nat → Int32), iv_I (N + 1) p e st ni cr hc lo hi wa ic se lc rm w q no → post (C, T, F, K, rc, st, rs, ti, ni, cr, hc, nk, ms, ei, us, dn, sa, fi, lo, hi, wa, ic, se, lc, rm, w, q, ih, vd, ro, no))) : wpX_onTerminateAck post (C, T, F, K, rc, st, rs, ti, ni, cr, hc, nk, ms, ei, us, dn, sa, fi, lo, hi, wa, ic, se, lc, rm, w, q, ih, vd, ro, no) P := by
  have hp := pp_lt HP
  have pv := pp_v HP
  obtain ⟨z, hz8, ez⟩ := VQ p hp
  obtain ⟨z2, hz82, ez2⟩ := (pn_VQ_a VQ hp) p hp
  have KN := iv_K_N (Nat.le_succ N) hN KK
  have m1 := hM 1 (by decide)
  unfold wpX_onTerminateAck wX_onTerminateAck_44
  refine ⟨pv, ?_⟩
  rw [pp_n HP]
  have hcase : s = 2 ∨ s = 3 ∨ s = 4 ∨ s = 5 ∨ s = 6 ∨ s = 7 ∨ s = 8 ∨ s = 9 := by omega
  rcases hcase with rfl | rfl | rfl | rfl | rfl | rfl | rfl | rfl
  · have e0 : st p = 2 := es
    rw [e0]
    refine (nm_e (br_t (by decide) ?_))
    refine H _ _ _ _ _ _ _ _ _ _ _ _ _ _ _ _ _ _ _ _ _ _ _ _ _ _ _ _ _ _ _ ?_
    exact iv_ms (n := 2) VO VQ VN KN (by decide) (iv_F_0 (by decide)) es et ht9 Fe
  · have e0 : st p = 3 := es
    rw [e0]
    refine (nm_e (br_t (by decide) ?_))
    refine H _ _ _ _ _ _ _ _ _ _ _ _ _ _ _ _ _ _ _ _ _ _ _ _ _ _ _ _ _ _ _ ?_
    exact iv_ms (n := 3) VO VQ VN KN (by decide) (iv_F_0 (by decide)) es et ht9 Fe
  · have e0 : st p = 4 := es
    rw [e0]
    refine (nm_e (br_f (by decide) (br_f (by decide) (br_t (by decide) (xa_fin4 HP e0 ?_)))))
    refine H _ _ _ _ _ _ _ _ _ _ _ _ _ _ _ _ _ _ _ _ _ _ _ _ _ _ _ _ _ _ _ ?_
    exact iv_mk (n := 2) pq VO VQ VN KN (by decide) (iv_F_0 (by decide)) et ht9 Fe
  · have e0 : st p = 5 := es
    rw [e0]
    refine (nm_e (br_f (by decide) (br_f (by decide) (br_f (by decide) (br_t (by decide) (xa_fingt HP (by rw [e0]; decide) (by rw [e0]; decide) ?_))))))
    refine H _ _ _ _ _ _ _ _ _ _ _ _ _ _ _ _ _ _ _ _ _ _ _ _ _ _ _ _ _ _ _ ?_
    exact iv_mk (n := 3) pq VO VQ VN KN (by decide) (iv_F_0 (by decide)) et ht9 Fe
  · have e0 : st p = 6 := es
    rw [e0]
    refine (nm_e (br_f (by decide) (br_f (by decide) (br_f (by decide) (br_f (by decide) (br_t (by decide) ?_))))))
    refine H _ _ _ _ _ _ _ _ _ _ _ _ _ _ _ _ _ _ _ _ _ _ _ _ _ _ _ _ _ _ _ ?_
    exact iv_ms (n := 6) VO VQ VN KN (by decide) Fp es et ht9 Fe
  · have e0 : st p = 7 := es
    rw [e0]
    refine (nm_e (br_f (by decide) (br_f (by decide) (br_f (by decide) (br_f (by decide) (br_f (by decide) (br_t (by decide) ⟨pv, (nm_e ?_)⟩)))))))
    refine H _ _ _ _ _ _ _ _ _ _ _ _ _ _ _ _ _ _ _ _ _ _ _ _ _ _ _ _ _ _ _ ?_
    exact iv_mk (n := 6) pq VO VQ VN KN (by decide) (iv_F_le Fp (by decide) (by decide) (by decide) (by decide)) et ht9 Fe
  · have e0 : st p = 8 := es
    rw [e0]
    refine (nm_e (br_f (by decide) (br_f (by decide) (br_f (by decide) (br_f (by decide) (br_f (by decide) (br_f (by decide) (br_t (by decide) ?_))))))))
    refine H _ _ _ _ _ _ _ _ _ _ _ _ _ _ _ _ _ _ _ _ _ _ _ _ _ _ _ _ _ _ _ ?_
    exact iv_ms (n := 8) VO VQ VN KN (by decide) Fp es et ht9 Fe
  · have e0 : st p = 9 := es
    rw [e0]
    refine (nm_e (br_f (by decide) (br_f (by decide) (br_f (by decide) (br_f (by decide) (br_f (by decide) (br_f (by decide) (br_f (by decide) (br_t (by decide) ⟨pv, ⟨pv, (nm_e (xa_scr HP ez hz8 ⟨pv, (nm_e ?_)⟩))⟩⟩)))))))))
    refine H _ _ _ _ _ _ _ _ _ _ _ _ _ _ _ _ _ _ _ _ _ _ _ _ _ _ _ _ _ _ _ ?_
    have S1 := iv_scr (d := p) pq ez hz8 hN KK (Fp.1 (by decide)).1 Fe
    exact iv_mk (n := 6) pq VO (pn_VQ_a VQ hp) VN S1.1 (by decide) S1.2.1 et ht9 S1.2.2
theorem ev_rxj (HP : pn_P P p) (pq : p + e = 1) (hN : N + 1 < 2 ^ 31) (VO : pn_VO lo hi ic) (VQ : pn_VQ q) (VN : pn_VN no) (KK : iv_K N ni cr hc se rm w q p e) (es : st p = nI s) (hs9 : s ≤ 9) (Fp : iv_F cr hc lo hi wa ic se lc rm s p e) (et : st e = nI t) (ht9 : t ≤ 9) (Fe : iv_F cr hc lo hi wa ic se lc rm t e p) (hM : ∀ f, f < 7 → ih f = M f) (hs2 : 2 ≤ s) (b1 : ¬ M 2 < 1) (b7 : M 2 ≤ 7) (H : (∀ (C T F K rc : Int32) (st rs ti ni cr hc nk ms ei us dn sa fi lo hi wa ic se lc rm w q ih vd ro no : Nat → Int32), iv_I (N + 1) p e st ni cr hc lo hi wa ic se lc rm w q no → post (C, T, F, K, rc, st, rs, ti, ni, cr, hc, nk, ms, ei, us, dn, sa, fi, lo, hi, wa, ic, se, lc, rm, w, q, ih, vd, ro, no))) : wpX_onCodeReject post (C, T, F, K, rc, st, rs, ti, ni, cr, hc, nk, ms, ei, us, dn, sa, fi, lo, hi, wa, ic, se, lc, rm, w, q, ih, vd, ro, no) P := by
  have hp := pp_lt HP
  have pv := pp_v HP
  obtain ⟨z, hz8, ez⟩ := VQ p hp
  obtain ⟨z2, hz82, ez2⟩ := (pn_VQ_a VQ hp) p hp
  have KN := iv_K_N (Nat.le_succ N) hN KK
  have m1 := hM 1 (by decide)
  have m2 := hM 2 (by decide)
  rw [← m2] at b1 b7
  unfold wpX_onCodeReject
  refine nm_e ?_
  rw [pp_n HP]
  have hcase : s = 2 ∨ s = 3 ∨ s = 4 ∨ s = 5 ∨ s = 6 ∨ s = 7 ∨ s = 8 ∨ s = 9 := by omega
  rcases hcase with rfl | rfl | rfl | rfl | rfl | rfl | rfl | rfl
  · have e0 : st p = 2 := es
    rw [e0]
    refine (br_f b1 (br_t b7 ⟨pv, (br_f (by decide) (xa_finle HP (by rw [e0]; decide) (by rw [e0]; decide) ?_))⟩))
    refine H _ _ _ _ _ _ _ _ _ _ _ _ _ _ _ _ _ _ _ _ _ _ _ _ _ _ _ _ _ _ _ ?_
    exact iv_ms (n := 2) VO VQ VN KN (by decide) (iv_F_0 (by decide)) es et ht9 Fe
  · have e0 : st p = 3 := es
    rw [e0]
    refine (br_f b1 (br_t b7 ⟨pv, (br_f (by decide) (xa_finle HP (by rw [e0]; decide) (by rw [e0]; decide) ?_))⟩))
    refine H _ _ _ _ _ _ _ _ _ _ _ _ _ _ _ _ _ _ _ _ _ _ _ _ _ _ _ _ _ _ _ ?_
    exact iv_ms (n := 3) VO VQ VN KN (by decide) (iv_F_0 (by decide)) es et ht9 Fe
  · have e0 : st p = 4 := es
    rw [e0]
    refine (br_f b1 (br_t b7 ⟨pv, (br_f (by decide) (xa_fin4 HP e0 ?_))⟩))
    refine H _ _ _ _ _ _ _ _ _ _ _ _ _ _ _ _ _ _ _ _ _ _ _ _ _ _ _ _ _ _ _ ?_
    exact iv_mk (n := 2) pq VO VQ VN KN (by decide) (iv_F_0 (by decide)) et ht9 Fe
  · have e0 : st p = 5 := es
    rw [e0]
    refine (br_f b1 (br_t b7 ⟨pv, (br_f (by decide) (xa_fingt HP (by rw [e0]; decide) (by rw [e0]; decide) ?_))⟩))
    refine H _ _ _ _ _ _ _ _ _ _ _ _ _ _ _ _ _ _ _ _ _ _ _ _ _ _ _ _ _ _ _ ?_
    exact iv_mk (n := 3) pq VO VQ VN KN (by decide) (iv_F_0 (by decide)) et ht9 Fe
  · have e0 : st p = 6 := es
    rw [e0]
    refine (br_f b1 (br_t b7 ⟨pv, (br_f (by decide) (xa_fingt HP (by rw [e0]; decide) (by rw [e0]; decide) ?_))⟩))
    refine H _ _ _ _ _ _ _ _ _ _ _ _ _ _ _ _ _ _ _ _ _ _ _ _ _ _ _ _ _ _ _ ?_
    exact iv_mk (n := 3) pq VO VQ VN KN (by decide) (iv_F_0 (by decide)) et ht9 Fe
  · have e0 : st p = 7 := es
    rw [e0]
    refine (br_f b1 (br_t b7 ⟨pv, (br_f (by decide) (xa_fingt HP (by rw [e0]; decide) (by rw [e0]; decide) ?_))⟩))
    refine H _ _ _ _ _ _ _ _ _ _ _ _ _ _ _ _ _ _ _ _ _ _ _ _ _ _ _ _ _ _ _ ?_
    exact iv_mk (n := 3) pq VO VQ VN KN (by decide) (iv_F_0 (by decide)) et ht9 Fe
  · have e0 : st p = 8 := es
    rw [e0]
    refine (br_f b1 (br_t b7 ⟨pv, (br_f (by decide) (xa_fingt HP (by rw [e0]; decide) (by rw [e0]; decide) ?_))⟩))
    refine H _ _ _ _ _ _ _ _ _ _ _ _ _ _ _ _ _ _ _ _ _ _ _ _ _ _ _ _ _ _ _ ?_
    exact iv_mk (n := 3) pq VO VQ VN KN (by decide) (iv_F_0 (by decide)) et ht9 Fe
  · have e0 : st p = 9 := es
    rw [e0]
    refine (br_f b1 (br_t b7 ⟨pv, (br_t (by decide) ⟨pv, ⟨pv, (nm_e (xa_bterm HP VN ez hz8 ?_))⟩⟩)⟩))
    refine H _ _ _ _ _ _ _ _ _ _ _ _ _ _ _ _ _ _ _ _ _ _ _ _ _ _ _ _ _ _ _ ?_
    exact iv_mk (n := 5) pq VO (pn_VQ_a VQ hp) VN (iv_K_c pq ez hz8 (iv_ni pq hN KK) (by decide) (by decide)) (by decide) (iv_F_le Fp (by decide) (by decide) (by decide) (by decide)) et ht9 Fe
theorem ev_top (HP : pn_P P p) (pq : p + e = 1) (hN : N + 1 < 2 ^ 31) (VO : pn_VO lo hi ic) (VQ : pn_VQ q) (VN : pn_VN no) (KK : iv_K N ni cr hc se rm w q p e) (es : st p = nI s) (hs9 : s ≤ 9) (Fp : iv_F cr hc lo hi wa ic se lc rm s p e) (et : st e = nI t) (ht9 : t ≤ 9) (Fe : iv_F cr hc lo hi wa ic se lc rm t e p) (hr : 0 < rs p) (hs4 : 4 ≤ s) (hs8 : s ≤ 8) (H : (∀ (C T F K rc : Int32) (st rs ti ni cr hc nk ms ei us dn sa fi lo hi wa ic se lc rm w q ih vd ro no : Nat → Int32), iv_I (N + 1) p e st ni cr hc lo hi wa ic se lc rm w q no → post (C, T, F, K, rc, st, rs, ti, ni, cr, hc, nk, ms, ei, us, dn, sa, fi, lo, hi, wa, ic, se, lc, rm, w, q, ih, vd, ro, no))) : wpX_onTimeout post (C, T, F, K, rc, st, rs, ti, ni, cr, hc, nk, ms, ei, us, dn, sa, fi, lo, hi, wa, ic, se, lc, rm, w, q, ih, vd, ro, no) P := by
  have hp := pp_lt HP
  have pv := pp_v HP
  obtain ⟨z, hz8, ez⟩ := VQ p hp
  obtain ⟨z2, hz82, ez2⟩ := (pn_VQ_a VQ hp) p hp
  have KN := iv_K_N (Nat.le_succ N) hN KK
  unfold wpX_onTimeout wX_onTimeout_37
  refine ⟨pv, ?_⟩
  rw [pp_n HP]
  have hcase : s = 4 ∨ s = 5 ∨ s = 6 ∨ s = 7 ∨ s = 8 := by omega
  rcases hcase with rfl | rfl | rfl | rfl | rfl
  · have e0 : st p = 4 := es
    rw [e0]
    refine (br_t hr ⟨pv, (br_t (by decide) (xa_str HP VN ez hz8 ?_))⟩)
    refine H _ _ _ _ _ _ _ _ _ _ _ _ _ _ _ _ _ _ _ _ _ _ _ _ _ _ _ _ _ _ _ ?_
    exact iv_ms (n := 4) VO (pn_VQ_a VQ hp) VN (iv_K_c pq ez hz8 (iv_ni pq hN KK) (by decide) (by decide)) (by decide) Fp es et ht9 Fe
  · have e0 : st p = 5 := es
    rw [e0]
    refine (br_t hr ⟨pv, (br_f (by decide) ⟨pv, (br_t (by decide) (xa_str HP VN ez hz8 ?_))⟩)⟩)
    refine H _ _ _ _ _ _ _ _ _ _ _ _ _ _ _ _ _ _ _ _ _ _ _ _ _ _ _ _ _ _ _ ?_
    exact iv_ms (n := 5) VO (pn_VQ_a VQ hp) VN (iv_K_c pq ez hz8 (iv_ni pq hN KK) (by decide) (by decide)) (by decide) Fp es et ht9 Fe
  · have e0 : st p = 6 := es
    rw [e0]
    refine (br_t hr ⟨pv, (br_f (by decide) ⟨pv, (br_f (by decide) (xa_scr HP ez hz8 ⟨pv, (br_f (by rw [e0]; decide) ?_)⟩))⟩)⟩)
    refine H _ _ _ _ _ _ _ _ _ _ _ _ _ _ _ _ _ _ _ _ _ _ _ _ _ _ _ _ _ _ _ ?_
    have S1 := iv_scr (d := p) pq ez hz8 hN KK (Fp.1 (by decide)).1 Fe
    exact iv_ms (n := 6) VO (pn_VQ_a VQ hp) VN S1.1 (by decide) S1.2.1 es et ht9 S1.2.2
  · have e0 : st p = 7 := es
    rw [e0]
    refine (br_t hr ⟨pv, (br_f (by decide) ⟨pv, (br_f (by decide) (xa_scr HP ez hz8 ⟨pv, (br_t e0 ⟨pv, (nm_e ?_)⟩)⟩))⟩)⟩)
    refine H _ _ _ _ _ _ _ _ _ _ _ _ _ _ _ _ _ _ _ _ _ _ _ _ _ _ _ _ _ _ _ ?_
    have S1 := iv_scr (d := p) pq ez hz8 hN KK (Fp.1 (by decide)).1 Fe
    exact iv_mk (n := 6) pq VO (pn_VQ_a VQ hp) VN S1.1 (by decide) S1.2.1 et ht9 S1.2.2
  · have e0 : st p = 8 := es
    rw [e0]
    refine (br_t hr ⟨pv, (br_f (by decide) ⟨pv, (br_f (by decide) (xa_scr HP ez hz8 ⟨pv, (br_f (by rw [e0]; decide) ?_)⟩))⟩)⟩)
    refine H _ _ _ _ _ _ _ _ _ _ _ _ _ _ _ _ _ _ _ _ _ _ _ _ _ _ _ _ _ _ _ ?_
    have S1 := iv_scr (d := p) pq ez hz8 hN KK (Fp.1 (by decide)).1 Fe
    exact iv_ms (n := 8) VO (pn_VQ_a VQ hp) VN S1.1 (by decide) (iv_F_8 S1.2.1 (Fp.2.2.2 (by decide))) es et ht9 S1.2.2
theorem ev_tom (HP : pn_P P p) (pq : p + e = 1) (hN : N + 1 < 2 ^ 31) (VO : pn_VO lo hi ic) (VQ : pn_VQ q) (VN : pn_VN no) (KK : iv_K N ni cr hc se rm w q p e) (es : st p = nI s) (hs9 : s ≤ 9) (Fp : iv_F cr hc lo hi wa ic se lc rm s p e) (et : st e = nI t) (ht9 : t ≤ 9) (Fe : iv_F cr hc lo hi wa ic se lc rm t e p) (hr : ¬ 0 < rs p) (hs4 : 4 ≤ s) (hs8 : s ≤ 8) (H : (∀ (C T F K rc : Int32) (st rs ti ni cr hc nk ms ei us dn sa fi lo hi wa ic se lc rm w q ih vd ro no : Nat → Int32), iv_I (N + 1) p e st ni cr hc lo hi wa ic se lc rm w q no → post (C, T, F, K, rc, st, rs, ti, ni, cr, hc, nk, ms, ei, us, dn, sa, fi, lo, hi, wa, ic, se, lc, rm, w, q, ih, vd, ro, no))) : wpX_onTimeout post (C, T, F, K, rc, st, rs, ti, ni, cr, hc, nk, ms, ei, us, dn, sa, fi, lo, hi, wa, ic, se, lc, rm, w, q, ih, vd, ro, no) P := by
  have hp := pp_lt HP
  have pv := pp_v HP
  obtain ⟨z, hz8, ez⟩ := VQ p hp
  obtain ⟨z2, hz82, ez2⟩ := (pn_VQ_a VQ hp) p hp
  have KN := iv_K_N (Nat.le_succ N) hN KK
  unfold wpX_onTimeout
  refine ⟨pv, ?_⟩
  rw [pp_n HP]
  have hcase : s = 4 ∨ s = 5 ∨ s = 6 ∨ s = 7 ∨ s = 8 := by omega
  rcases hcase with rfl | rfl | rfl | rfl | rfl
  · have e0 : st p = 4 := es
    rw [e0]
    refine (br_f hr (xa_fin4 HP e0 ?_))
    refine H _ _ _ _ _ _ _ _ _ _ _ _ _ _ _ _ _ _ _ _ _ _ _ _ _ _ _ _ _ _ _ ?_
    exact iv_mk (n := 2) pq VO VQ VN KN (by decide) (iv_F_0 (by decide)) et ht9 Fe
  · have e0 : st p = 5 := es
    rw [e0]
    refine (br_f hr (xa_fingt HP (by rw [e0]; decide) (by rw [e0]; decide) ?_))
    refine H _ _ _ _ _ _ _ _ _ _ _ _ _ _ _ _ _ _ _ _ _ _ _ _ _ _ _ _ _ _ _ ?_
    exact iv_mk (n := 3) pq VO VQ VN KN (by decide) (iv_F_0 (by decide)) et ht9 Fe
  · have e0 : st p = 6 := es
    rw [e0]
    refine (br_f hr (xa_fingt HP (by rw [e0]; decide) (by rw [e0]; decide) ?_))
    refine H _ _ _ _ _ _ _ _ _ _ _ _ _ _ _ _ _ _ _ _ _ _ _ _ _ _ _ _ _ _ _ ?_
    exact iv_mk (n := 3) pq VO VQ VN KN (by decide) (iv_F_0 (by decide)) et ht9 Fe
  · have e0 : st p = 7 := es
    rw [e0]
    refine (br_f hr (xa_fingt HP (by rw [e0]; decide) (by rw [e0]; decide) ?_))
    refine H _ _ _ _ _ _ _ _ _ _ _ _ _ _ _ _ _ _ _ _ _ _ _ _ _ _ _ _ _ _ _ ?_
    exact iv_mk (n := 3) pq VO VQ VN KN (by decide) (iv_F_0 (by decide)) et ht9 Fe
  · have e0 : st p = 8 := es
    rw [e0]
    refine (br_f hr (xa_fingt HP (by rw [e0]; decide) (by rw [e0]; decide) ?_))
    refine H _ _ _ _ _ _ _ _ _ _ _ _ _ _ _ _ _ _ _ _ _ _ _ _ _ _ _ _ _ _ _ ?_
    exact iv_mk (n := 3) pq VO VQ VN KN (by decide) (iv_F_0 (by decide)) et ht9 Fe
theorem ev_down (HP : pn_P P p) (pq : p + e = 1) (hN : N + 1 < 2 ^ 31) (VO : pn_VO lo hi ic) (VQ : pn_VQ q) (VN : pn_VN no) (KK : iv_K N ni cr hc se rm w q p e) (es : st p = nI s) (hs9 : s ≤ 9) (Fp : iv_F cr hc lo hi wa ic se lc rm s p e) (et : st e = nI t) (ht9 : t ≤ 9) (Fe : iv_F cr hc lo hi wa ic se lc rm t e p) (H : (∀ (C T F K rc : Int32) (st rs ti ni cr hc nk ms ei us dn sa fi lo hi wa ic se lc rm w q ih vd ro no : Nat → Int32), iv_I (N + 1) p e st ni cr hc lo hi wa ic se lc rm w q no → post (C, T, F, K, rc, st, rs, ti, ni, cr, hc, nk, ms, ei, us, dn, sa, fi, lo, hi, wa, ic, se, lc, rm, w, q, ih, vd, ro, no))) : wpX_onDown post (C, T, F, K, rc, st, rs, ti, ni, cr, hc, nk, ms, ei, us, dn, sa, fi, lo, hi, wa, ic, se, lc, rm, w, q, ih, vd, ro, no) P := by
  have hp := pp_lt HP
  have pv := pp_v HP
  obtain ⟨z, hz8, ez⟩ := VQ p hp
  obtain ⟨z2, hz82, ez2⟩ := (pn_VQ_a VQ hp) p hp
  have KN := iv_K_N (Nat.le_succ N) hN KK
  unfold wpX_onDown
  refine ⟨pv, ?_⟩
  rw [pp_n HP]
  have hcase : s = 0 ∨ s = 1 ∨ s = 2 ∨ s = 3 ∨ s = 4 ∨ s = 5 ∨ s = 6 ∨ s = 7 ∨ s = 8 ∨ s = 9 := by omega
  rcases hcase with rfl | rfl | rfl | rfl | rfl | rfl | rfl | rfl | rfl | rfl
  · have e0 : st p = 0 := es
    rw [e0]
    refine (nm_e (br_t (by decide) ?_))
    refine H _ _ _ _ _ _ _ _ _ _ _ _ _ _ _ _ _ _ _ _ _ _ _ _ _ _ _ _ _ _ _ ?_
    exact iv_ms (n := 0) VO VQ VN KN (by decide) (iv_F_0 (by decide)) es et ht9 Fe
  · have e0 : st p = 1 := es
    rw [e0]
    refine (nm_e (br_t (by decide) ?_))
    refine H _ _ _ _ _ _ _ _ _ _ _ _ _ _ _ _ _ _ _ _ _ _ _ _ _ _ _ _ _ _ _ ?_
    exact iv_ms (n := 1) VO VQ VN KN (by decide) (iv_F_0 (by decide)) es et ht9 Fe
  · have e0 : st p = 2 := es
    rw [e0]
    refine (nm_e (br_f (by decide) (br_f (by decide) (br_t (by decide) ⟨pv, (nm_e ?_)⟩))))
    refine H _ _ _ _ _ _ _ _ _ _ _ _ _ _ _ _ _ _ _ _ _ _ _ _ _ _ _ _ _ _ _ ?_
    exact iv_mk (n := 0) pq VO VQ VN KN (by decide) (iv_F_0 (by decide)) et ht9 Fe
  · have e0 : st p = 3 := es
    rw [e0]
    refine (nm_e (br_f (by decide) (br_f (by decide) (br_f (by decide) (br_t (by decide) ⟨pv, ⟨pv, (nm_e ⟨pv, (nm_e ?_)⟩)⟩⟩)))))
    refine H _ _ _ _ _ _ _ _ _ _ _ _ _ _ _ _ _ _ _ _ _ _ _ _ _ _ _ _ _ _ _ ?_
    exact iv_mk (n := 1) pq VO VQ VN KN (by decide) (iv_F_0 (by decide)) et ht9 Fe
  · have e0 : st p = 4 := es
    rw [e0]
    refine (nm_e (br_f (by decide) (br_f (by decide) (br_f (by decide) (br_f (by decide) (br_t (by decide) ⟨pv, (nm_e ?_)⟩))))))
    refine H _ _ _ _ _ _ _ _ _ _ _ _ _ _ _ _ _ _ _ _ _ _ _ _ _ _ _ _ _ _ _ ?_
    exact iv_mk (n := 0) pq VO VQ VN KN (by decide) (iv_F_0 (by decide)) et ht9 Fe
  · have e0 : st p = 5 := es
    rw [e0]
    refine (nm_e (br_f (by decide) (br_f (by decide) (br_f (by decide) (br_f (by decide) (br_f (by decide) (br_t (by decide) ⟨pv, (nm_e ?_)⟩)))))))
    refine H _ _ _ _ _ _ _ _ _ _ _ _ _ _ _ _ _ _ _ _ _ _ _ _ _ _ _ _ _ _ _ ?_
    exact iv_mk (n := 1) pq VO VQ VN KN (by decide) (iv_F_0 (by decide)) et ht9 Fe
  · have e0 : st p = 6 := es
    rw [e0]
    refine (nm_e (br_f (by decide) (br_f (by decide) (br_f (by decide) (br_f (by decide) (br_f (by decide) (br_f (by decide) (br_t (by decide) ⟨pv, (nm_e ?_)⟩))))))))
    refine H _ _ _ _ _ _ _ _ _ _ _ _ _ _ _ _ _ _ _ _ _ _ _ _ _ _ _ _ _ _ _ ?_
    exact iv_mk (n := 1) pq VO VQ VN KN (by decide) (iv_F_0 (by decide)) et ht9 Fe
  · have e0 : st p = 7 := es
    rw [e0]
    refine (nm_e (br_f (by decide) (br_f (by decide) (br_f (by decide) (br_f (by decide) (br_f (by decide) (br_f (by decide) (br_f (by decide) (br_t (by decide) ⟨pv, (nm_e ?_)⟩)))))))))
    refine H _ _ _ _ _ _ _ _ _ _ _ _ _ _ _ _ _ _ _ _ _ _ _ _ _ _ _ _ _ _ _ ?_
    exact iv_mk (n := 1) pq VO VQ VN KN (by decide) (iv_F_0 (by decide)) et ht9 Fe
  · have e0 : st p = 8 := es
    rw [e0]
    refine (nm_e (br_f (by decide) (br_f (by decide) (br_f (by decide) (br_f (by decide) (br_f (by decide) (br_f (by decide) (br_f (by decide) (br_f (by decide) (br_t (by decide) ⟨pv, (nm_e ?_)⟩))))))))))
    refine H _ _ _ _ _ _ _ _ _ _ _ _ _ _ _ _ _ _ _ _ _ _ _ _ _ _ _ _ _ _ _ ?_
    exact iv_mk (n := 1) pq VO VQ VN KN (by decide) (iv_F_0 (by decide)) et ht9 Fe
  · have e0 : st p = 9 := es
    rw [e0]
    refine (nm_e (br_f (by decide) (br_f (by decide) (br_f (by decide) (br_f (by decide) (br_f (by decide) (br_f (by decide) (br_f (by decide) (br_f (by decide) (br_f (by decide) (br_t (by decide) ⟨pv, ⟨pv, (nm_e ⟨pv, (nm_e ?_)⟩)⟩⟩)))))))))))
    refine H _ _ _ _ _ _ _ _ _ _ _ _ _ _ _ _ _ _ _ _ _ _ _ _ _ _ _ _ _ _ _ ?_
    exact iv_mk (n := 1) pq VO VQ VN KN (by decide) (iv_F_0 (by decide)) et ht9 Fe
end EV
