def pn_fA (M se : Nat → Int32) (p k : Nat) (y : Int32) : Int32 := if M (3 + k) = se (p * 4 + k) then y else 0
def pn_fN (M se : Nat → Int32) (p k : Nat) (y : Int32) : Int32 := if M (3 + k) = -1 then y else if se (p * 4 + k) = -1 then 0 else y
def pn_fR (M se : Nat → Int32) (p k : Nat) (y : Int32) : Int32 := if M (3 + k) = -1 then y else if M (3 + k) = se (p * 4 + k) then y else 0
def pn_gA (M se : Nat → Int32) (p : Nat) (y : Int32) : Int32 := pn_fA M se p 3 (pn_fA M se p 2 (pn_fA M se p 1 (pn_fA M se p 0 y)))
def pn_gN (M se : Nat → Int32) (p : Nat) (y : Int32) : Int32 := pn_fN M se p 3 (pn_fN M se p 2 (pn_fN M se p 1 (pn_fN M se p 0 y)))
def pn_gR (M se : Nat → Int32) (p : Nat) (y : Int32) : Int32 := pn_fR M se p 3 (pn_fR M se p 2 (pn_fR M se p 1 (pn_fR M se p 0 y)))
theorem pn_fA_01 {M se : Nat → Int32} {p k : Nat} {y : Int32} (h : y = 0 ∨ y = 1) : pn_fA M se p k y = 0 ∨ pn_fA M se p k y = 1 := by
  unfold pn_fA
  split
  · exact h
  · exact Or.inl rfl
theorem pn_fN_01 {M se : Nat → Int32} {p k : Nat} {y : Int32} (h : y = 0 ∨ y = 1) : pn_fN M se p k y = 0 ∨ pn_fN M se p k y = 1 := by
  unfold pn_fN
  split
  · exact h
  · split
    · exact Or.inl rfl
    · exact h
theorem pn_fR_01 {M se : Nat → Int32} {p k : Nat} {y : Int32} (h : y = 0 ∨ y = 1) : pn_fR M se p k y = 0 ∨ pn_fR M se p k y = 1 := by
  unfold pn_fR
  split
  · exact h
  · split
    · exact h
    · exact Or.inl rfl
section PX
variable {C T F K rc : Int32} {st rs ti ni cr hc nk ms ei us dn sa fi lo hi wa ic se lc rm w q ih vd ro no : Nat → Int32} {P : Int32} {p : Nat} {post : St2 → Prop}
variable {post1 : Int32 → Prop} {u0 : St0}
theorem xa_clamp {v l g : Int32} (h : post1 (pn_cl v l g)) : wpX_clamp post1 u0 v l g := by
  unfold pn_cl at h
  refine br_c (fun h1 => ?_) (fun h1 => ?_)
  · rw [if_pos h1] at h
    refine br_c (fun h2 => ?_) (fun h2 => ?_)
    · rw [if_pos h2] at h; exact h
    · rw [if_neg h2] at h; exact h
  · rw [if_neg h1] at h; exact h
theorem xa_end1 (HP : pn_P P p) (h : post1 1) : wpX_isEnd post1 u0 P := by
  rcases HP with ⟨rfl, _⟩ | ⟨rfl, _⟩
  · exact br_t rfl h
  · exact br_f (by decide) (br_t rfl h)
theorem xa_end0 {v : Int32} (h0 : ¬ v = 0) (h1 : ¬ v = 1) (h : post1 0) : wpX_isEnd post1 u0 v := br_f h0 (br_f h1 h)
theorem xs_start (HP : pn_P P p) {n k : Nat} (hk : k < 4) (h : wX_startNegotiation_2 post P C T F K rc n (nI (k + 1)) st rs ti ni cr hc nk ms ei us dn sa fi lo hi (upd wa (p * 4 + k) (hi (p * 4 + k))) (upd ic (p * 4 + k) (pn_in lo hi p k)) se lc rm w q ih vd ro no) : wX_startNegotiation_2 post P C T F K rc (n + 1) (nI k) st rs ti ni cr hc nk ms ei us dn sa fi lo hi wa ic se lc rm w q ih vd ro no := by
  refine br_f (pp_g4 hk) ?_
  intro x3 e3
  have e4 : x3.toNatClampNeg = p * 4 + k := by rw [e3, pp_4 HP hk]
  have v4 : vp_in x3 8 := by rw [e3]; exact pp_v4 HP hk
  rw [e4]
  refine ⟨v4, v4, ?_⟩
  intro a ea
  refine ⟨v4, v4, ?_⟩
  by_cases hc1 : hi (p * 4 + k) < lo (p * 4 + k)
  · refine br_t hc1 ⟨v4, ?_⟩
    intro b eb x ex
    rw [show pn_in lo hi p k = 0 from if_pos hc1] at h
    rw [nI_1] at ex
    subst ea eb ex
    exact h
  · refine br_f hc1 ⟨v4, ?_⟩
    intro b eb x ex
    rw [show pn_in lo hi p k = 1 from if_neg hc1] at h
    rw [nI_1] at ex
    subst ea eb ex
    exact h
theorem xe_start (HP : pn_P P p) {n : Nat} (h : post (C, T, F, K, rc, st, rs, ti, ni, cr, hc, upd nk p 0, ms, ei, us, dn, sa, fi, lo, hi, wa, ic, se, lc, rm, w, q, ih, vd, ro, no)) : wX_startNegotiation_2 post P C T F K rc (n + 1) (nI 4) st rs ti ni cr hc nk ms ei us dn sa fi lo hi wa ic se lc rm w q ih vd ro no := by
  refine br_t pp_44 ⟨pp_v HP, ?_⟩
  rw [pp_n HP]
  exact nm_e h
theorem xa_start (HP : pn_P P p) (h : post (C, T, F, K, rc, st, rs, ti, ni, cr, hc, upd nk p 0, ms, ei, us, dn, sa, fi, lo, hi, pn_4 wa (p * 4) (pn_hi hi p), pn_4 ic (p * 4) (pn_in lo hi p), se, lc, rm, w, q, ih, vd, ro, no)) : wpX_startNegotiation post (C, T, F, K, rc, st, rs, ti, ni, cr, hc, nk, ms, ei, us, dn, sa, fi, lo, hi, wa, ic, se, lc, rm, w, q, ih, vd, ro, no) P :=
  ⟨5, xs_start HP (k := 0) (by decide) (xs_start HP (k := 1) (by decide) (xs_start HP (k := 2) (by decide) (xs_start HP (k := 3) (by decide) (xe_start HP h))))⟩
theorem xa_spend (HP : pn_P P p) (h : post (C, T, F, K, rc, st, pn_sp rs p, upd ti p K, ni, cr, hc, nk, ms, ei, us, dn, sa, fi, lo, hi, wa, ic, se, lc, rm, w, q, ih, vd, ro, no)) : wpX_spendRequest post (C, T, F, K, rc, st, rs, ti, ni, cr, hc, nk, ms, ei, us, dn, sa, fi, lo, hi, wa, ic, se, lc, rm, w, q, ih, vd, ro, no) P := by
  have pv := pp_v HP
  unfold wpX_spendRequest
  refine ⟨pv, ?_⟩
  rw [pp_n HP]
  by_cases hr : rs p ≤ 0
  · rw [show pn_sp rs p = rs from if_pos hr] at h
    exact br_t hr ⟨pv, nm_e h⟩
  · rw [show pn_sp rs p = upd rs p (rs p - 1) from if_neg hr] at h
    exact br_f hr ⟨pv, pv, nm_e ⟨pv, nm_e h⟩⟩
theorem xs_app_no (HP : pn_P P p) {n b k : Nat} (hb : b ≤ 105) (hk : k < 4) (h : wX_append_2_62 post P 0 (nI b) C T F K rc n (nI (k + 1)) st rs ti ni cr hc nk ms ei us dn sa fi lo hi wa ic se lc rm (upd w (b + (3 + k)) (no (k))) q ih vd ro no) : wX_append_2_62 post P 0 (nI b) C T F K rc (n + 1) (nI k) st rs ti ni cr hc nk ms ei us dn sa fi lo hi wa ic se lc rm w q ih vd ro no := by
  refine br_f (pp_g4 hk) ?_
  rw [pp_z k, nI_clamp (n := k) (by omega), pp_b3k hb hk]
  refine ⟨vp_in_nI hk (by decide), pp_vb3k hb hk, ?_⟩
  intro a ea x ex
  rw [nI_1] at ex
  subst ea ex
  exact h
theorem xe_app_no (HP : pn_P P p) {n b : Nat} (h : post (C, T, F, K, rc, st, rs, ti, ni, cr, hc, nk, ms, ei, us, dn, sa, fi, lo, hi, wa, ic, se, lc, rm, w, upd q p (q p + 1), ih, vd, ro, no)) : wX_append_2_62 post P 0 (nI b) C T F K rc (n + 1) (nI 4) st rs ti ni cr hc nk ms ei us dn sa fi lo hi wa ic se lc rm w q ih vd ro no := by
  refine br_t pp_44 ⟨pp_v HP, pp_v HP, ?_⟩
  rw [pp_n HP]
  exact nm_e h
theorem xa_app_no (HP : pn_P P p) {s : Nat} (hs : q p = nI s) (hs8 : s ≤ 8) {c i d : Int32} (h : post (C, T, F, K, rc, st, rs, ti, ni, cr, hc, nk, ms, ei, us, dn, sa, fi, lo, hi, wa, ic, se, lc, rm, pn_aw w q p c i d (no 0) (no 1) (no 2) (no 3), pn_aq q p, ih, vd, ro, no)) : wpX_append_2 post (C, T, F, K, rc, st, rs, ti, ni, cr, hc, nk, ms, ei, us, dn, sa, fi, lo, hi, wa, ic, se, lc, rm, w, q, ih, vd, ro, no) P c i d 0 := by
  have pv := pp_v HP
  unfold wpX_append_2
  refine ⟨pv, ?_⟩
  rw [pp_n HP, hs]
  by_cases h8 : s < 8
  · have hb : p * 56 + s * 7 ≤ 105 := by have := pp_lt HP; omega
    rw [pn_aw_lt hs h8, pn_aq_lt hs h8] at h
    refine br_t (nI_lt (b := 8) h8 (by decide)) ⟨pv, ?_⟩
    intro x7 e7
    rw [pp_b HP] at e7
    subst e7
    have b0 : (nI (p * 56 + s * 7) + 0).toNatClampNeg = p * 56 + s * 7 + 0 := pp_bk (k := 0) hb (by decide)
    have b1 : (nI (p * 56 + s * 7) + 1).toNatClampNeg = p * 56 + s * 7 + 1 := pp_bk (k := 1) hb (by decide)
    have b2 : (nI (p * 56 + s * 7) + 2).toNatClampNeg = p * 56 + s * 7 + 2 := pp_bk (k := 2) hb (by decide)
    rw [b0, b1, b2]
    refine ⟨pp_vbk (k := 0) hb (by decide), nm_e ⟨pp_vbk (k := 1) hb (by decide), nm_e ⟨pp_vbk (k := 2) hb (by decide), nm_e ?_⟩⟩⟩
    exact ⟨5, xs_app_no HP hb (k := 0) (by decide) (xs_app_no HP hb (k := 1) (by decide) (xs_app_no HP hb (k := 2) (by decide) (xs_app_no HP hb (k := 3) (by decide) (xe_app_no HP h))))⟩
  · rw [pn_aw_ge hs h8 hs8, pn_aq_ge hs h8 hs8] at h
    exact br_f (pn_n8 h8 hs8) h
theorem xs_app_ro (HP : pn_P P p) {n b k : Nat} (hb : b ≤ 105) (hk : k < 4) (h : wX_append_4_62 post P 0 (nI b) C T F K rc n (nI (k + 1)) st rs ti ni cr hc nk ms ei us dn sa fi lo hi wa ic se lc rm (upd w (b + (3 + k)) (ro (k))) q ih vd ro no) : wX_append_4_62 post P 0 (nI b) C T F K rc (n + 1) (nI k) st rs ti ni cr hc nk ms ei us dn sa fi lo hi wa ic se lc rm w q ih vd ro no := by
  refine br_f (pp_g4 hk) ?_
  rw [pp_z k, nI_clamp (n := k) (by omega), pp_b3k hb hk]
  refine ⟨vp_in_nI hk (by decide), pp_vb3k hb hk, ?_⟩
  intro a ea x ex
  rw [nI_1] at ex
  subst ea ex
  exact h
theorem xe_app_ro (HP : pn_P P p) {n b : Nat} (h : post (C, T, F, K, rc, st, rs, ti, ni, cr, hc, nk, ms, ei, us, dn, sa, fi, lo, hi, wa, ic, se, lc, rm, w, upd q p (q p + 1), ih, vd, ro, no)) : wX_append_4_62 post P 0 (nI b) C T F K rc (n + 1) (nI 4) st rs ti ni cr hc nk ms ei us dn sa fi lo hi wa ic se lc rm w q ih vd ro no := by
  refine br_t pp_44 ⟨pp_v HP, pp_v HP, ?_⟩
  rw [pp_n HP]
  exact nm_e h
theorem xa_app_ro (HP : pn_P P p) {s : Nat} (hs : q p = nI s) (hs8 : s ≤ 8) {c i d : Int32} (h : post (C, T, F, K, rc, st, rs, ti, ni, cr, hc, nk, ms, ei, us, dn, sa, fi, lo, hi, wa, ic, se, lc, rm, pn_aw w q p c i d (ro 0) (ro 1) (ro 2) (ro 3), pn_aq q p, ih, vd, ro, no)) : wpX_append_4 post (C, T, F, K, rc, st, rs, ti, ni, cr, hc, nk, ms, ei, us, dn, sa, fi, lo, hi, wa, ic, se, lc, rm, w, q, ih, vd, ro, no) P c i d 0 := by
  have pv := pp_v HP
  unfold wpX_append_4
  refine ⟨pv, ?_⟩
  rw [pp_n HP, hs]
  by_cases h8 : s < 8
  · have hb : p * 56 + s * 7 ≤ 105 := by have := pp_lt HP; omega
    rw [pn_aw_lt hs h8, pn_aq_lt hs h8] at h
    refine br_t (nI_lt (b := 8) h8 (by decide)) ⟨pv, ?_⟩
    intro x7 e7
    rw [pp_b HP] at e7
    subst e7
    have b0 : (nI (p * 56 + s * 7) + 0).toNatClampNeg = p * 56 + s * 7 + 0 := pp_bk (k := 0) hb (by decide)
    have b1 : (nI (p * 56 + s * 7) + 1).toNatClampNeg = p * 56 + s * 7 + 1 := pp_bk (k := 1) hb (by decide)
    have b2 : (nI (p * 56 + s * 7) + 2).toNatClampNeg = p * 56 + s * 7 + 2 := pp_bk (k := 2) hb (by decide)
    rw [b0, b1, b2]
    refine ⟨pp_vbk (k := 0) hb (by decide), nm_e ⟨pp_vbk (k := 1) hb (by decide), nm_e ⟨pp_vbk (k := 2) hb (by decide), nm_e ?_⟩⟩⟩
    exact ⟨5, xs_app_ro HP hb (k := 0) (by decide) (xs_app_ro HP hb (k := 1) (by decide) (xs_app_ro HP hb (k := 2) (by decide) (xs_app_ro HP hb (k := 3) (by decide) (xe_app_ro HP h))))⟩
  · rw [pn_aw_ge hs h8 hs8, pn_aq_ge hs h8 hs8] at h
    exact br_f (pn_n8 h8 hs8) h
theorem xs_app_se (HP : pn_P P p) {n b k : Nat} (hb : b ≤ 105) (hk : k < 4) (h : wX_append_62 post P (nI (p * 4)) (nI b) C T F K rc n (nI (k + 1)) st rs ti ni cr hc nk ms ei us dn sa fi lo hi wa ic se lc rm (upd w (b + (3 + k)) (se (p * 4 + k))) q ih vd ro no) : wX_append_62 post P (nI (p * 4)) (nI b) C T F K rc (n + 1) (nI k) st rs ti ni cr hc nk ms ei us dn sa fi lo hi wa ic se lc rm w q ih vd ro no := by
  refine br_f (pp_g4 hk) ?_
  rw [nI_add (p * 4) k, nI_clamp (n := p * 4 + k) (by have := pp_lt HP; omega), pp_b3k hb hk]
  refine ⟨vp_in_nI (by have := pp_lt HP; omega) (by decide), pp_vb3k hb hk, ?_⟩
  intro a ea x ex
  rw [nI_1] at ex
  subst ea ex
  exact h
theorem xe_app_se (HP : pn_P P p) {n b : Nat} (h : post (C, T, F, K, rc, st, rs, ti, ni, cr, hc, nk, ms, ei, us, dn, sa, fi, lo, hi, wa, ic, se, lc, rm, w, upd q p (q p + 1), ih, vd, ro, no)) : wX_append_62 post P (nI (p * 4)) (nI b) C T F K rc (n + 1) (nI 4) st rs ti ni cr hc nk ms ei us dn sa fi lo hi wa ic se lc rm w q ih vd ro no := by
  refine br_t pp_44 ⟨pp_v HP, pp_v HP, ?_⟩
  rw [pp_n HP]
  exact nm_e h
theorem xa_app_se (HP : pn_P P p) {s : Nat} (hs : q p = nI s) (hs8 : s ≤ 8) {c i d : Int32} (h : post (C, T, F, K, rc, st, rs, ti, ni, cr, hc, nk, ms, ei, us, dn, sa, fi, lo, hi, wa, ic, se, lc, rm, pn_aw w q p c i d (se (p * 4 + 0)) (se (p * 4 + 1)) (se (p * 4 + 2)) (se (p * 4 + 3)), pn_aq q p, ih, vd, ro, no)) : wpX_append post (C, T, F, K, rc, st, rs, ti, ni, cr, hc, nk, ms, ei, us, dn, sa, fi, lo, hi, wa, ic, se, lc, rm, w, q, ih, vd, ro, no) P c i d (nI (p * 4)) := by
  have pv := pp_v HP
  unfold wpX_append
  refine ⟨pv, ?_⟩
  rw [pp_n HP, hs]
  by_cases h8 : s < 8
  · have hb : p * 56 + s * 7 ≤ 105 := by have := pp_lt HP; omega
    rw [pn_aw_lt hs h8, pn_aq_lt hs h8] at h
    refine br_t (nI_lt (b := 8) h8 (by decide)) ⟨pv, ?_⟩
    intro x7 e7
    rw [pp_b HP] at e7
    subst e7
    have b0 : (nI (p * 56 + s * 7) + 0).toNatClampNeg = p * 56 + s * 7 + 0 := pp_bk (k := 0) hb (by decide)
    have b1 : (nI (p * 56 + s * 7) + 1).toNatClampNeg = p * 56 + s * 7 + 1 := pp_bk (k := 1) hb (by decide)
    have b2 : (nI (p * 56 + s * 7) + 2).toNatClampNeg = p * 56 + s * 7 + 2 := pp_bk (k := 2) hb (by decide)
    rw [b0, b1, b2]
    refine ⟨pp_vbk (k := 0) hb (by decide), nm_e ⟨pp_vbk (k := 1) hb (by decide), nm_e ⟨pp_vbk (k := 2) hb (by decide), nm_e ?_⟩⟩⟩
    exact ⟨5, xs_app_se HP hb (k := 0) (by decide) (xs_app_se HP hb (k := 1) (by decide) (xs_app_se HP hb (k := 2) (by decide) (xs_app_se HP hb (k := 3) (by decide) (xe_app_se HP h))))⟩
  · rw [pn_aw_ge hs h8 hs8, pn_aq_ge hs h8 hs8] at h
    exact br_f (pn_n8 h8 hs8) h
theorem xs_app_ih (HP : pn_P P p) {n b k : Nat} (hb : b ≤ 105) (hk : k < 4) (h : wX_append_3_62 post P 3 (nI b) C T F K rc n (nI (k + 1)) st rs ti ni cr hc nk ms ei us dn sa fi lo hi wa ic se lc rm (upd w (b + (3 + k)) (ih (3 + k))) q ih vd ro no) : wX_append_3_62 post P 3 (nI b) C T F K rc (n + 1) (nI k) st rs ti ni cr hc nk ms ei us dn sa fi lo hi wa ic se lc rm w q ih vd ro no := by
  refine br_f (pp_g4 hk) ?_
  rw [pp_3 hk, pp_b3k hb hk]
  refine ⟨pp_v3 hk, pp_vb3k hb hk, ?_⟩
  intro a ea x ex
  rw [nI_1] at ex
  subst ea ex
  exact h
theorem xe_app_ih (HP : pn_P P p) {n b : Nat} (h : post (C, T, F, K, rc, st, rs, ti, ni, cr, hc, nk, ms, ei, us, dn, sa, fi, lo, hi, wa, ic, se, lc, rm, w, upd q p (q p + 1), ih, vd, ro, no)) : wX_append_3_62 post P 3 (nI b) C T F K rc (n + 1) (nI 4) st rs ti ni cr hc nk ms ei us dn sa fi lo hi wa ic se lc rm w q ih vd ro no := by
  refine br_t pp_44 ⟨pp_v HP, pp_v HP, ?_⟩
  rw [pp_n HP]
  exact nm_e h
theorem xa_app_ih (HP : pn_P P p) {s : Nat} (hs : q p = nI s) (hs8 : s ≤ 8) {c i d : Int32} (h : post (C, T, F, K, rc, st, rs, ti, ni, cr, hc, nk, ms, ei, us, dn, sa, fi, lo, hi, wa, ic, se, lc, rm, pn_aw w q p c i d (ih (3 + 0)) (ih (3 + 1)) (ih (3 + 2)) (ih (3 + 3)), pn_aq q p, ih, vd, ro, no)) : wpX_append_3 post (C, T, F, K, rc, st, rs, ti, ni, cr, hc, nk, ms, ei, us, dn, sa, fi, lo, hi, wa, ic, se, lc, rm, w, q, ih, vd, ro, no) P c i d 3 := by
  have pv := pp_v HP
  unfold wpX_append_3
  refine ⟨pv, ?_⟩
  rw [pp_n HP, hs]
  by_cases h8 : s < 8
  · have hb : p * 56 + s * 7 ≤ 105 := by have := pp_lt HP; omega
    rw [pn_aw_lt hs h8, pn_aq_lt hs h8] at h
    refine br_t (nI_lt (b := 8) h8 (by decide)) ⟨pv, ?_⟩
    intro x7 e7
    rw [pp_b HP] at e7
    subst e7
    have b0 : (nI (p * 56 + s * 7) + 0).toNatClampNeg = p * 56 + s * 7 + 0 := pp_bk (k := 0) hb (by decide)
    have b1 : (nI (p * 56 + s * 7) + 1).toNatClampNeg = p * 56 + s * 7 + 1 := pp_bk (k := 1) hb (by decide)
    have b2 : (nI (p * 56 + s * 7) + 2).toNatClampNeg = p * 56 + s * 7 + 2 := pp_bk (k := 2) hb (by decide)
    rw [b0, b1, b2]
    refine ⟨pp_vbk (k := 0) hb (by decide), nm_e ⟨pp_vbk (k := 1) hb (by decide), nm_e ⟨pp_vbk (k := 2) hb (by decide), nm_e ?_⟩⟩⟩
    exact ⟨5, xs_app_ih HP hb (k := 0) (by decide) (xs_app_ih HP hb (k := 1) (by decide) (xs_app_ih HP hb (k := 2) (by decide) (xs_app_ih HP hb (k := 3) (by decide) (xe_app_ih HP h))))⟩
  · rw [pn_aw_ge hs h8 hs8, pn_aq_ge hs h8 hs8] at h
    exact br_f (pn_n8 h8 hs8) h
theorem xs_scr (HP : pn_P P p) {n k : Nat} (hk : k < 4) (h : wX_sendConfigureRequest_28 post P (nI (p * 4)) C T F K rc n (nI (p * 4 + (k + 1))) st rs ti ni cr hc nk ms ei us dn sa fi lo hi wa ic (upd se (p * 4 + k) (pn_g ic wa p k)) lc rm w q ih vd ro no) : wX_sendConfigureRequest_28 post P (nI (p * 4)) C T F K rc (n + 1) (nI (p * 4 + k)) st rs ti ni cr hc nk ms ei us dn sa fi lo hi wa ic se lc rm w q ih vd ro no := by
  have hp := pp_lt HP
  have g : ¬ nI (p * 4) + 4 ≤ nI (p * 4 + k) := by
    rw [show nI (p * 4) + 4 = nI (p * 4 + 4) from nI_add _ 4]
    exact nI_ge (by omega) (by omega)
  have v : vp_in (nI (p * 4 + k)) 8 := vp_in_nI (by omega) (by decide)
  refine br_f g ⟨v, ?_⟩
  rw [nI_clamp (n := p * 4 + k) (by omega)]
  by_cases hi1 : ic (p * 4 + k) = 0
  · rw [show pn_g ic wa p k = -1 from if_pos hi1] at h
    refine br_t hi1 ⟨v, ?_⟩
    intro a ea x ex
    rw [nI_1] at ex
    subst ea ex
    exact h
  · rw [show pn_g ic wa p k = wa (p * 4 + k) from if_neg hi1] at h
    refine br_f hi1 ⟨v, v, ?_⟩
    intro a ea x ex
    rw [nI_1] at ex
    subst ea ex
    exact h
theorem xe_scr (HP : pn_P P p) {n s : Nat} (hs : q p = nI s) (hs8 : s ≤ 8) (h : post (C, T, F, K, rc, st, pn_sp rs p, upd ti p K, ni, cr, hc, nk, ms, ei, us, dn, sa, fi, lo, hi, wa, ic, se, lc, rm, pn_aw w q p 1 (cr p) 0 (se (p * 4 + 0)) (se (p * 4 + 1)) (se (p * 4 + 2)) (se (p * 4 + 3)), pn_aq q p, ih, vd, ro, no)) : wX_sendConfigureRequest_28 post P (nI (p * 4)) C T F K rc (n + 1) (nI (p * 4 + 4)) st rs ti ni cr hc nk ms ei us dn sa fi lo hi wa ic se lc rm w q ih vd ro no := by
  have hp := pp_lt HP
  have g : nI (p * 4) + 4 ≤ nI (p * 4 + 4) := by
    rw [show nI (p * 4) + 4 = nI (p * 4 + 4) from nI_add _ 4]
    exact nI_le (Nat.le_refl _) (by omega)
  refine br_t g ⟨pp_v HP, ?_⟩
  rw [pp_n HP]
  exact xa_app_se HP hs hs8 (xa_spend HP h)
theorem xa_scr (HP : pn_P P p) {s : Nat} (hs : q p = nI s) (hs8 : s ≤ 8) (h : post (C, T, F, K, rc, st, pn_sp rs p, upd ti p K, upd ni p (ni p + 1), upd cr p (ni p + 1), hc, nk, ms, ei, us, dn, sa, fi, lo, hi, wa, ic, pn_4 se (p * 4) (pn_g ic wa p), lc, rm, pn_aw w q p 1 (ni p + 1) 0 (pn_g ic wa p 0) (pn_g ic wa p 1) (pn_g ic wa p 2) (pn_g ic wa p 3), pn_aq q p, ih, vd, ro, no)) : wpX_sendConfigureRequest post (C, T, F, K, rc, st, rs, ti, ni, cr, hc, nk, ms, ei, us, dn, sa, fi, lo, hi, wa, ic, se, lc, rm, w, q, ih, vd, ro, no) P := by
  have pv := pp_v HP
  unfold wpX_sendConfigureRequest
  rw [pp_n HP]
  intro x2 e2
  rw [pp_40 HP] at e2
  subst e2
  refine ⟨pv, pv, ?_⟩
  intro n1 en
  refine ⟨pv, pv, ?_⟩
  intro c1 ec
  rw [en, pn_at] at ec
  subst en ec
  refine ⟨5, xs_scr HP (k := 0) (by decide) (xs_scr HP (k := 1) (by decide) (xs_scr HP (k := 2) (by decide) (xs_scr HP (k := 3) (by decide) (xe_scr HP hs hs8 ?_))))⟩
  have h0 := pn_4_0 se (p * 4) (pn_g ic wa p)
  have h1 := pn_4_1 se (p * 4) (pn_g ic wa p)
  have h2 := pn_4_2 se (p * 4) (pn_g ic wa p)
  have h3 := pn_4_3 se (p * 4) (pn_g ic wa p)
  have hc1 := pn_at cr p (ni p + 1)
  rw [← h0, ← h1, ← h2, ← h3] at h
  have E1 : post (C, T, F, K, rc, st, pn_sp rs p, upd ti p K, upd ni p (ni p + 1), upd cr p (ni p + 1), hc, nk, ms, ei, us, dn, sa, fi, lo, hi, wa, ic, pn_4 se (p * 4) (pn_g ic wa p), lc, rm, pn_aw w q p 1 (upd cr p (ni p + 1) p) 0 (pn_4 se (p * 4) (pn_g ic wa p) (p * 4 + 0)) (pn_4 se (p * 4) (pn_g ic wa p) (p * 4 + 1)) (pn_4 se (p * 4) (pn_g ic wa p) (p * 4 + 2)) (pn_4 se (p * 4) (pn_g ic wa p) (p * 4 + 3)), pn_aq q p, ih, vd, ro, no) := by
    rw [hc1]; exact h
  exact E1
theorem xa_app0 (HP : pn_P P p) (N : pn_VN no) {s : Nat} (hs : q p = nI s) (hs8 : s ≤ 8) {c i d : Int32} (h : post (C, T, F, K, rc, st, rs, ti, ni, cr, hc, nk, ms, ei, us, dn, sa, fi, lo, hi, wa, ic, se, lc, rm, pn_aw w q p c i d (-1) (-1) (-1) (-1), pn_aq q p, ih, vd, ro, no)) : wpX_append_2 post (C, T, F, K, rc, st, rs, ti, ni, cr, hc, nk, ms, ei, us, dn, sa, fi, lo, hi, wa, ic, se, lc, rm, w, q, ih, vd, ro, no) P c i d 0 := by
  refine xa_app_no HP hs hs8 ?_
  obtain ⟨n0, n1, n2, n3⟩ := N
  rw [n0, n1, n2, n3]
  exact h
theorem xa_str (HP : pn_P P p) (N : pn_VN no) {s : Nat} (hs : q p = nI s) (hs8 : s ≤ 8) (h : post (C, T, F, K, rc, st, pn_sp rs p, upd ti p K, upd ni p (ni p + 1), cr, hc, nk, ms, ei, us, dn, sa, fi, lo, hi, wa, ic, se, lc, rm, pn_aw w q p 5 (ni p + 1) 0 (-1) (-1) (-1) (-1), pn_aq q p, ih, vd, ro, no)) : wpX_sendTerminateRequest post (C, T, F, K, rc, st, rs, ti, ni, cr, hc, nk, ms, ei, us, dn, sa, fi, lo, hi, wa, ic, se, lc, rm, w, q, ih, vd, ro, no) P := by
  have pv := pp_v HP
  unfold wpX_sendTerminateRequest
  rw [pp_n HP]
  refine ⟨pv, pv, ?_⟩
  intro n1 en
  subst en
  refine ⟨pv, ?_⟩
  rw [pn_at]
  exact xa_app0 HP N hs hs8 (xa_spend HP h)
theorem xa_sta (HP : pn_P P p) (N : pn_VN no) {s : Nat} (hs : q p = nI s) (hs8 : s ≤ 8) {M1 : Int32} (h1 : ih 1 = M1) (h : post (C, T, F, K, rc, st, rs, ti, ni, cr, hc, nk, ms, ei, us, dn, sa, fi, lo, hi, wa, ic, se, lc, rm, pn_aw w q p 6 M1 0 (-1) (-1) (-1) (-1), pn_aq q p, ih, vd, ro, no)) : wpX_sendTerminateAck post (C, T, F, K, rc, st, rs, ti, ni, cr, hc, nk, ms, ei, us, dn, sa, fi, lo, hi, wa, ic, se, lc, rm, w, q, ih, vd, ro, no) P := by
  unfold wpX_sendTerminateAck
  refine xa_app0 HP N hs hs8 ?_
  rw [h1]
  exact h
theorem xa_scj (HP : pn_P P p) (N : pn_VN no) {s : Nat} (hs : q p = nI s) (hs8 : s ≤ 8) {M0 : Int32} (h1 : ih 0 = M0) (h : post (C, T, F, K, rc, st, rs, ti, upd ni p (ni p + 1), cr, hc, nk, ms, ei, us, dn, sa, fi, lo, hi, wa, ic, se, lc, rm, pn_aw w q p 7 (ni p + 1) M0 (-1) (-1) (-1) (-1), pn_aq q p, ih, vd, ro, no)) : wpX_sendCodeReject post (C, T, F, K, rc, st, rs, ti, ni, cr, hc, nk, ms, ei, us, dn, sa, fi, lo, hi, wa, ic, se, lc, rm, w, q, ih, vd, ro, no) P := by
  have pv := pp_v HP
  unfold wpX_sendCodeReject
  rw [pp_n HP]
  refine ⟨pv, pv, ?_⟩
  rw [h1]
  intro n1 en
  subst en
  refine ⟨pv, ?_⟩
  rw [pn_at]
  exact xa_app0 HP N hs hs8 h
theorem xa_breq (HP : pn_P P p) {s : Nat} (hs : q p = nI s) (hs8 : s ≤ 8) (h : post (C, T, F, K, rc, upd st p 6, pn_sp (upd rs p C) p, upd ti p K, upd ni p (ni p + 1), upd cr p (ni p + 1), hc, upd nk p 0, ms, ei, us, dn, sa, fi, lo, hi, pn_4 wa (p * 4) (pn_hi hi p), pn_4 ic (p * 4) (pn_in lo hi p), pn_4 se (p * 4) (pn_g (pn_4 ic (p * 4) (pn_in lo hi p)) (pn_4 wa (p * 4) (pn_hi hi p)) p), lc, rm, pn_aw w q p 1 (ni p + 1) 0 (pn_g (pn_4 ic (p * 4) (pn_in lo hi p)) (pn_4 wa (p * 4) (pn_hi hi p)) p 0) (pn_g (pn_4 ic (p * 4) (pn_in lo hi p)) (pn_4 wa (p * 4) (pn_hi hi p)) p 1) (pn_g (pn_4 ic (p * 4) (pn_in lo hi p)) (pn_4 wa (p * 4) (pn_hi hi p)) p 2) (pn_g (pn_4 ic (p * 4) (pn_in lo hi p)) (pn_4 wa (p * 4) (pn_hi hi p)) p 3), pn_aq q p, ih, vd, ro, no)) : wpX_beginRequests post (C, T, F, K, rc, st, rs, ti, ni, cr, hc, nk, ms, ei, us, dn, sa, fi, lo, hi, wa, ic, se, lc, rm, w, q, ih, vd, ro, no) P := by
  have pv := pp_v HP
  unfold wpX_beginRequests
  rw [pp_n HP]
  refine xa_start HP ⟨pv, nm_e (xa_scr HP hs hs8 ⟨pv, nm_e h⟩)⟩
theorem xa_bterm (HP : pn_P P p) (N : pn_VN no) {s : Nat} (hs : q p = nI s) (hs8 : s ≤ 8) {S : Int32} (h : post (C, T, F, K, rc, upd st p S, pn_sp (upd rs p T) p, upd ti p K, upd ni p (ni p + 1), cr, hc, nk, ms, ei, us, dn, sa, fi, lo, hi, wa, ic, se, lc, rm, pn_aw w q p 5 (ni p + 1) 0 (-1) (-1) (-1) (-1), pn_aq q p, ih, vd, ro, no)) : wpX_beginTermination post (C, T, F, K, rc, st, rs, ti, ni, cr, hc, nk, ms, ei, us, dn, sa, fi, lo, hi, wa, ic, se, lc, rm, w, q, ih, vd, ro, no) P S := by
  have pv := pp_v HP
  unfold wpX_beginTermination
  rw [pp_n HP]
  refine ⟨pv, nm_e (xa_str HP N hs hs8 ⟨pv, nm_e h⟩)⟩
theorem xa_fin4 (HP : pn_P P p) (e : st p = 4) (h : post (C, T, F, K, rc, upd st p 2, rs, ti, ni, cr, hc, nk, ms, ei, us, dn, sa, upd fi p (fi p + 1), lo, hi, wa, ic, se, lc, rm, w, q, ih, vd, ro, no)) : wpX_finish post (C, T, F, K, rc, st, rs, ti, ni, cr, hc, nk, ms, ei, us, dn, sa, fi, lo, hi, wa, ic, se, lc, rm, w, q, ih, vd, ro, no) P := by
  have pv := pp_v HP
  unfold wpX_finish
  rw [pp_n HP]
  exact ⟨pv, pv, nm_e ⟨pv, br_t e ⟨pv, nm_e h⟩⟩⟩
theorem xa_finle (HP : pn_P P p) (e : ¬ st p = 4) (e2 : st p ≤ 4) (h : post (C, T, F, K, rc, st, rs, ti, ni, cr, hc, nk, ms, ei, us, dn, sa, upd fi p (fi p + 1), lo, hi, wa, ic, se, lc, rm, w, q, ih, vd, ro, no)) : wpX_finish post (C, T, F, K, rc, st, rs, ti, ni, cr, hc, nk, ms, ei, us, dn, sa, fi, lo, hi, wa, ic, se, lc, rm, w, q, ih, vd, ro, no) P := by
  have pv := pp_v HP
  unfold wpX_finish
  rw [pp_n HP]
  exact ⟨pv, pv, nm_e ⟨pv, br_f e ⟨pv, br_t e2 h⟩⟩⟩
theorem xa_fingt (HP : pn_P P p) (e : ¬ st p = 4) (e2 : ¬ st p ≤ 4) (h : post (C, T, F, K, rc, upd st p 3, rs, ti, ni, cr, hc, nk, ms, ei, us, dn, sa, upd fi p (fi p + 1), lo, hi, wa, ic, se, lc, rm, w, q, ih, vd, ro, no)) : wpX_finish post (C, T, F, K, rc, st, rs, ti, ni, cr, hc, nk, ms, ei, us, dn, sa, fi, lo, hi, wa, ic, se, lc, rm, w, q, ih, vd, ro, no) P := by
  have pv := pp_v HP
  unfold wpX_finish
  rw [pp_n HP]
  exact ⟨pv, pv, nm_e ⟨pv, br_f e ⟨pv, br_f e2 ⟨pv, nm_e h⟩⟩⟩⟩
theorem xa_timed1 (HP : pn_P P p) (e4 : ¬ st p < 4) (e8 : ¬ 8 < st p) (h : post1 1) : wpX_isTimed post1 (C, T, F, K, rc, st, rs, ti, ni, cr, hc, nk, ms, ei, us, dn, sa, fi, lo, hi, wa, ic, se, lc, rm, w, q, ih, vd, ro, no) P := by
  have pv := pp_v HP
  unfold wpX_isTimed
  rw [pp_n HP]
  exact ⟨pv, br_f e4 ⟨pv, br_f e8 h⟩⟩
theorem xa_timed0 (HP : pn_P P p) (e : st p < 4 ∨ (¬ st p < 4 ∧ 8 < st p)) (h : post1 0) : wpX_isTimed post1 (C, T, F, K, rc, st, rs, ti, ni, cr, hc, nk, ms, ei, us, dn, sa, fi, lo, hi, wa, ic, se, lc, rm, w, q, ih, vd, ro, no) P := by
  have pv := pp_v HP
  unfold wpX_isTimed
  rw [pp_n HP]
  rcases e with e4 | ⟨e4, e8⟩
  · exact ⟨pv, br_t e4 h⟩
  · exact ⟨pv, br_f e4 ⟨pv, br_t e8 h⟩⟩
theorem xa_setl1 (HP : pn_P P p) (e4 : ¬ st p < 4) (e8 : ¬ 8 < st p) (h : post (C, T, F, K, rc, st, rs, ti, ni, cr, hc, nk, ms, ei, us, dn, sa, fi, lo, hi, wa, ic, se, lc, rm, w, q, ih, vd, ro, no)) : wpX_settleTimer post (C, T, F, K, rc, st, rs, ti, ni, cr, hc, nk, ms, ei, us, dn, sa, fi, lo, hi, wa, ic, se, lc, rm, w, q, ih, vd, ro, no) P := by
  unfold wpX_settleTimer
  exact xa_timed1 HP e4 e8 (br_f (by decide) h)
theorem xa_setl0 (HP : pn_P P p) (e : st p < 4 ∨ (¬ st p < 4 ∧ 8 < st p)) (h : post (C, T, F, K, rc, st, rs, upd ti p 0, ni, cr, hc, nk, ms, ei, us, dn, sa, fi, lo, hi, wa, ic, se, lc, rm, w, q, ih, vd, ro, no)) : wpX_settleTimer post (C, T, F, K, rc, st, rs, ti, ni, cr, hc, nk, ms, ei, us, dn, sa, fi, lo, hi, wa, ic, se, lc, rm, w, q, ih, vd, ro, no) P := by
  have pv := pp_v HP
  unfold wpX_settleTimer
  rw [pp_n HP]
  exact xa_timed0 HP e (br_t rfl ⟨pv, nm_e h⟩)
theorem xa_setl (HP : pn_P P p) (h : post (C, T, F, K, rc, st, rs, pn_tj st ti p, ni, cr, hc, nk, ms, ei, us, dn, sa, fi, lo, hi, wa, ic, se, lc, rm, w, q, ih, vd, ro, no)) : wpX_settleTimer post (C, T, F, K, rc, st, rs, ti, ni, cr, hc, nk, ms, ei, us, dn, sa, fi, lo, hi, wa, ic, se, lc, rm, w, q, ih, vd, ro, no) P := by
  by_cases h4 : st p < 4
  · rw [pn_tj_off (Or.inl h4)] at h
    exact xa_setl0 HP (Or.inl h4) h
  · by_cases h8 : 8 < st p
    · rw [pn_tj_off (Or.inr ⟨h4, h8⟩)] at h
      exact xa_setl0 HP (Or.inr ⟨h4, h8⟩) h
    · rw [pn_tj_on h4 h8] at h
      exact xa_setl1 HP h4 h8 h
theorem xa_tlu (HP : pn_P P p) (h : post (C, T, F, K, rc, st, rs, ti, ni, cr, hc, nk, upd ms p 0, ei, upd us p (us p + 1), dn, sa, fi, lo, hi, wa, ic, se, lc, rm, w, q, ih, vd, ro, no)) : wpX_layerUp post (C, T, F, K, rc, st, rs, ti, ni, cr, hc, nk, ms, ei, us, dn, sa, fi, lo, hi, wa, ic, se, lc, rm, w, q, ih, vd, ro, no) P := by
  have pv := pp_v HP
  unfold wpX_layerUp
  rw [pp_n HP]
  exact ⟨pv, pv, nm_e ⟨pv, nm_e h⟩⟩
theorem xs_sh {b L : Nat} (hb : b + L ≤ 105) (h : post (C, T, F, K, rc, st, rs, ti, ni, cr, hc, nk, ms, ei, us, dn, sa, fi, lo, hi, wa, ic, se, lc, rm, pn_sh w b L, q, ih, vd, ro, no)) : ∀ d n : Nat, n + d = L → wX_takeHead_61 post (nI (b + L)) C T F K rc (d + 1) (nI (b + n)) st rs ti ni cr hc nk ms ei us dn sa fi lo hi wa ic se lc rm (pn_sh w b n) q ih vd ro no := by
  intro d
  induction d with
  | zero =>
    intro n hn
    have e : n = L := by omega
    subst e
    exact br_t (nI_le (Nat.le_refl _) (by omega)) h
  | succ d IH =>
    intro n hn
    refine br_f (nI_ge (by omega) (by omega)) ?_
    rw [show nI (b + n) + 7 = nI (b + n + 7) from nI_add _ 7, nI_clamp (n := b + n + 7) (by omega), nI_clamp (n := b + n) (by omega)]
    refine ⟨vp_in_nI (by omega) (by decide), vp_in_nI (by omega) (by decide), ?_⟩
    intro a ea x ex
    rw [nI_1] at ex
    rw [pn_shs] at ea
    subst ea ex
    exact IH (n + 1) (by omega)
theorem xs_take {n b k : Nat} (hb : b ≤ 105) (hk : k < 7) (h : wX_takeHead_10 post P (nI b) C T F K rc n (nI (k + 1)) st rs ti ni cr hc nk ms ei us dn sa fi lo hi wa ic se lc rm w q (upd ih k (w (b + k))) vd ro no) : wX_takeHead_10 post P (nI b) C T F K rc (n + 1) (nI k) st rs ti ni cr hc nk ms ei us dn sa fi lo hi wa ic se lc rm w q ih vd ro no := by
  refine br_f (pp_g7 hk) ?_
  rw [pp_bk hb hk, nI_clamp (n := k) (by omega)]
  refine ⟨pp_vbk hb hk, vp_in_nI hk (by decide), ?_⟩
  intro a ea x ex
  rw [nI_1] at ex
  subst ea ex
  exact h
theorem xe_take (HP : pn_P P p) {n s : Nat} (hs : q p = nI (s + 1)) (hs8 : s + 1 ≤ 8) (h : post (C, T, F, K, rc, st, rs, ti, ni, cr, hc, nk, ms, ei, us, dn, sa, fi, lo, hi, wa, ic, se, lc, rm, pn_sh w (p * 56) (s * 7), upd q p (nI s), ih, vd, ro, no)) : wX_takeHead_10 post P (nI (p * 56)) C T F K rc (n + 1) (nI 7) st rs ti ni cr hc nk ms ei us dn sa fi lo hi wa ic se lc rm w q ih vd ro no := by
  have pv := pp_v HP
  have hp := pp_lt HP
  refine br_t pp_77 ⟨pv, pv, ?_⟩
  rw [pp_n HP, hs, nI_pred]
  intro a ea
  rw [ea, pn_at]
  refine ⟨pv, ?_⟩
  intro x ex
  rw [show nI s * 7 = nI (s * 7) from pn_mul s 7, nI_add] at ex
  subst ea ex
  refine ⟨s * 7 + 1, ?_⟩
  have h0 := xs_sh (b := p * 56) (L := s * 7) (by omega) h (s * 7) 0 (by omega)
  rw [pn_sh0] at h0
  exact h0
theorem xa_take (HP : pn_P P p) {s : Nat} (hs : q p = nI (s + 1)) (hs8 : s + 1 ≤ 8) (h : post (C, T, F, K, rc, st, rs, ti, ni, cr, hc, nk, ms, ei, us, dn, sa, fi, lo, hi, wa, ic, se, lc, rm, pn_sh w (p * 56) (s * 7), upd q p (nI s), pn_l7 ih (fun f => w (p * 56 + f)), vd, ro, no)) : wpX_takeHead post (C, T, F, K, rc, st, rs, ti, ni, cr, hc, nk, ms, ei, us, dn, sa, fi, lo, hi, wa, ic, se, lc, rm, w, q, ih, vd, ro, no) P := by
  have hp := pp_lt HP
  have hb : p * 56 ≤ 105 := by omega
  unfold wpX_takeHead
  intro x2 e2
  rw [pp_b0 HP] at e2
  subst e2
  exact ⟨8, xs_take hb (k := 0) (by decide) (xs_take hb (k := 1) (by decide) (xs_take hb (k := 2) (by decide) (xs_take hb (k := 3) (by decide) (xs_take hb (k := 4) (by decide) (xs_take hb (k := 5) (by decide) (xs_take hb (k := 6) (by decide) (xe_take HP hs hs8 h)))))))⟩
theorem xs_sca (HP : pn_P P p) {n k : Nat} {R : Nat → Int32} (hR : ro k = R k) (hk : k < 4) (h : wX_sendConfigureAck_20 post P C T F K rc n (nI (k + 1)) st rs ti ni cr hc nk ms ei us dn sa fi lo hi wa ic se lc (upd rm (p * 4 + k) (R k)) w q ih vd ro no) : wX_sendConfigureAck_20 post P C T F K rc (n + 1) (nI k) st rs ti ni cr hc nk ms ei us dn sa fi lo hi wa ic se lc rm w q ih vd ro no := by
  refine br_f (pp_g4 hk) ?_
  rw [pp_4 HP hk, nI_clamp (n := k) (by omega), hR]
  refine ⟨vp_in_nI hk (by decide), pp_v4 HP hk, ?_⟩
  intro a ea x ex
  rw [nI_1] at ex
  subst ea ex
  exact h
theorem xe_sca (HP : pn_P P p) {n : Nat} (h : post (C, T, F, K, rc, st, rs, ti, ni, cr, hc, upd nk p 0, ms, ei, us, dn, sa, fi, lo, hi, wa, ic, se, lc, rm, w, q, ih, vd, ro, no)) : wX_sendConfigureAck_20 post P C T F K rc (n + 1) (nI 4) st rs ti ni cr hc nk ms ei us dn sa fi lo hi wa ic se lc rm w q ih vd ro no := by
  refine br_t pp_44 ⟨pp_v HP, ?_⟩
  rw [pp_n HP]
  exact nm_e h
theorem xa_sca (HP : pn_P P p) {s : Nat} (hs : q p = nI s) (hs8 : s ≤ 8) {M1 : Int32} (h1 : ih 1 = M1) {R : Nat → Int32} (hR : ∀ k, k < 4 → ro k = R k) (h : post (C, T, F, K, rc, st, rs, ti, ni, cr, hc, upd nk p 0, ms, ei, us, dn, sa, fi, lo, hi, wa, ic, se, lc, pn_4 rm (p * 4) R, pn_aw w q p 2 M1 0 (R 0) (R 1) (R 2) (R 3), pn_aq q p, ih, vd, ro, no)) : wpX_sendConfigureAck post (C, T, F, K, rc, st, rs, ti, ni, cr, hc, nk, ms, ei, us, dn, sa, fi, lo, hi, wa, ic, se, lc, rm, w, q, ih, vd, ro, no) P := by
  unfold wpX_sendConfigureAck
  refine xa_app_ro HP hs hs8 ?_
  rw [h1, hR 0 (by decide), hR 1 (by decide), hR 2 (by decide), hR 3 (by decide)]
  exact ⟨5, xs_sca HP (k := 0) (hR 0 (by decide)) (by decide) (xs_sca HP (k := 1) (hR 1 (by decide)) (by decide) (xs_sca HP (k := 2) (hR 2 (by decide)) (by decide) (xs_sca HP (k := 3) (hR 3 (by decide)) (by decide) (xe_sca HP h))))⟩
theorem xa_scn (HP : pn_P P p) {s : Nat} (hs : q p = nI s) (hs8 : s ≤ 8) {M1 : Int32} (h1 : ih 1 = M1) {R : Nat → Int32} (hR : ∀ k, k < 4 → ro k = R k) (h : post (C, T, F, K, rc, st, rs, ti, ni, cr, hc, if rc = 3 then upd nk p (nk p + 1) else nk, ms, ei, us, dn, sa, fi, lo, hi, wa, ic, se, lc, rm, pn_aw w q p rc M1 0 (R 0) (R 1) (R 2) (R 3), pn_aq q p, ih, vd, ro, no)) : wpX_sendRefusal post (C, T, F, K, rc, st, rs, ti, ni, cr, hc, nk, ms, ei, us, dn, sa, fi, lo, hi, wa, ic, se, lc, rm, w, q, ih, vd, ro, no) P := by
  have pv := pp_v HP
  unfold wpX_sendRefusal
  rw [pp_n HP]
  refine xa_app_ro HP hs hs8 ?_
  rw [h1, hR 0 (by decide), hR 1 (by decide), hR 2 (by decide), hR 3 (by decide)]
  by_cases h3 : rc = 3
  · rw [if_pos h3] at h
    exact br_t h3 ⟨pv, pv, nm_e h⟩
  · rw [if_neg h3] at h
    exact br_f h3 h
theorem xs_adopt (HP : pn_P P p) {n k : Nat} {M wa0 ic0 : Nat → Int32} (hM : ∀ f, f < 7 → ih f = M f) (hk : k < 4) (hw : wa (p * 4 + k) = wa0 (p * 4 + k)) (hc1 : ic (p * 4 + k) = ic0 (p * 4 + k)) (h : wX_adopt_2 post P C T F K rc n (nI (k + 1)) st rs ti ni cr hc nk ms ei us dn sa fi lo hi (upd wa (p * 4 + k) (pn_aW (M 0) M lo hi wa0 p k)) (upd ic (p * 4 + k) (pn_aI (M 0) M ic0 p k)) se lc rm w q ih vd ro no) : wX_adopt_2 post P C T F K rc (n + 1) (nI k) st rs ti ni cr hc nk ms ei us dn sa fi lo hi wa ic se lc rm w q ih vd ro no := by
  refine br_f (pp_g4 hk) ?_
  intro x3 e3
  have e4 : x3.toNatClampNeg = p * 4 + k := by rw [e3, pp_4 HP hk]
  have v4 : vp_in x3 8 := by rw [e3]; exact pp_v4 HP hk
  rw [e4, pp_3 hk, hM (3 + k) (by omega), hM 0 (by decide)]
  refine ⟨pp_v3 hk, ?_⟩
  intro x4 e5
  subst e5
  by_cases hn : M (3 + k) = -1
  · rw [show pn_aW (M 0) M lo hi wa0 p k = wa0 (p * 4 + k) from if_pos hn, show pn_aI (M 0) M ic0 p k = ic0 (p * 4 + k) from if_pos hn, pn_self wa _ _ hw, pn_self ic _ _ hc1] at h
    refine br_t hn ?_
    intro x ex
    rw [nI_1] at ex
    subst ex
    exact h
  · refine br_f hn ?_
    by_cases h3 : M 0 = 3
    · rw [show pn_aW (M 0) M lo hi wa0 p k = pn_cl (M (3 + k)) (lo (p * 4 + k)) (hi (p * 4 + k)) from (if_neg hn).trans (if_pos h3), show pn_aI (M 0) M ic0 p k = ic0 (p * 4 + k) from (if_neg hn).trans (if_pos h3), pn_self ic _ _ hc1] at h
      refine br_t h3 ⟨v4, v4, xa_clamp ⟨v4, ?_⟩⟩
      intro a ea x ex
      rw [nI_1] at ex
      subst ea ex
      exact h
    · rw [show pn_aW (M 0) M lo hi wa0 p k = wa0 (p * 4 + k) from (if_neg hn).trans (if_neg h3), show pn_aI (M 0) M ic0 p k = 0 from (if_neg hn).trans (if_neg h3), pn_self wa _ _ hw] at h
      refine br_f h3 ⟨v4, ?_⟩
      intro a ea x ex
      rw [nI_1] at ex
      subst ea ex
      exact h
theorem xe_adopt {n : Nat} (h : post (C, T, F, K, rc, st, rs, ti, ni, cr, hc, nk, ms, ei, us, dn, sa, fi, lo, hi, wa, ic, se, lc, rm, w, q, ih, vd, ro, no)) : wX_adopt_2 post P C T F K rc (n + 1) (nI 4) st rs ti ni cr hc nk ms ei us dn sa fi lo hi wa ic se lc rm w q ih vd ro no := br_t pp_44 h
theorem xa_adopt (HP : pn_P P p) {M : Nat → Int32} (hM : ∀ f, f < 7 → ih f = M f) (h : post (C, T, F, K, rc, st, rs, ti, ni, cr, hc, nk, ms, ei, us, dn, sa, fi, lo, hi, pn_4 wa (p * 4) (pn_aW (M 0) M lo hi wa p), pn_4 ic (p * 4) (pn_aI (M 0) M ic p), se, lc, rm, w, q, ih, vd, ro, no)) : wpX_adopt post (C, T, F, K, rc, st, rs, ti, ni, cr, hc, nk, ms, ei, us, dn, sa, fi, lo, hi, wa, ic, se, lc, rm, w, q, ih, vd, ro, no) P := by
  unfold wpX_adopt
  refine ⟨5, xs_adopt HP (k := 0) (wa0 := wa) (ic0 := ic) hM (by decide) ?_ ?_ (xs_adopt HP (k := 1) (wa0 := wa) (ic0 := ic) hM (by decide) ?_ ?_ (xs_adopt HP (k := 2) (wa0 := wa) (ic0 := ic) hM (by decide) ?_ ?_ (xs_adopt HP (k := 3) (wa0 := wa) (ic0 := ic) hM (by decide) ?_ ?_ (xe_adopt h))))⟩
  all_goals first | rfl | (repeat rw [pn_ne _ _ (by omega)])
theorem xs_vA (HP : pn_P P p) {n k : Nat} {M : Nat → Int32} {y : Int32} (hM : ∀ f, f < 7 → ih f = M f) (hk : k < 4) (hy : y = 0 ∨ y = 1) (h : wX_isValidAck_23 post1 P C T F K rc st rs ti ni cr hc nk ms ei us dn sa fi lo hi wa ic se lc rm w q ih vd ro no n (pn_fA M se p k y) (nI (k + 1))) : wX_isValidAck_23 post1 P C T F K rc st rs ti ni cr hc nk ms ei us dn sa fi lo hi wa ic se lc rm w q ih vd ro no (n + 1) y (nI k) := by
  refine br_f (pp_g4 hk) ?_
  rw [pp_3 hk, pp_4 HP hk, hM (3 + k) (by omega)]
  rcases hy with rfl | rfl
  · rw [show pn_fA M se p k 0 = 0 from ite_self 0] at h
    refine br_t rfl ?_
    intro x ex
    rw [nI_1] at ex
    subst ex
    exact h
  · refine br_f (by decide) ⟨pp_v3 hk, pp_v4 HP hk, ?_⟩
    by_cases c : M (3 + k) = se (p * 4 + k)
    · rw [show pn_fA M se p k 1 = 1 from if_pos c] at h
      exact br_t c (nm_r (nI_1 k) h)
    · rw [show pn_fA M se p k 1 = 0 from if_neg c] at h
      exact br_f c (nm_r (nI_1 k) h)
theorem xe_vA {n : Nat} {y : Int32} (hy : y = 0 ∨ y = 1) (h : post1 y) : wX_isValidAck_23 post1 P C T F K rc st rs ti ni cr hc nk ms ei us dn sa fi lo hi wa ic se lc rm w q ih vd ro no (n + 1) y (nI 4) := by
  rcases hy with rfl | rfl
  · exact br_t pp_44 ⟨rfl, h⟩
  · exact br_t pp_44 ⟨rfl, h⟩
theorem xa_vA (HP : pn_P P p) {M : Nat → Int32} (hM : ∀ f, f < 7 → ih f = M f) (h : post1 (pn_gA M se p (if M 1 = cr p then 1 else 0))) : wpX_isValidAck post1 (C, T, F, K, rc, st, rs, ti, ni, cr, hc, nk, ms, ei, us, dn, sa, fi, lo, hi, wa, ic, se, lc, rm, w, q, ih, vd, ro, no) P := by
  unfold wpX_isValidAck
  refine ⟨pp_v HP, ?_⟩
  rw [pp_n HP, hM 1 (by decide)]
  by_cases c : M 1 = cr p
  · rw [if_pos c] at h
    have y0 := pn_fA_01 (M := M) (se := se) (p := p) (k := 0) (y := 1) (Or.inr rfl)
    have y1 := pn_fA_01 (M := M) (se := se) (p := p) (k := 1) y0
    have y2 := pn_fA_01 (M := M) (se := se) (p := p) (k := 2) y1
    have y3 := pn_fA_01 (M := M) (se := se) (p := p) (k := 3) y2
    exact br_t c ⟨5, xs_vA HP (k := 0) hM (by decide) (Or.inr rfl) (xs_vA HP (k := 1) hM (by decide) y0 (xs_vA HP (k := 2) hM (by decide) y1 (xs_vA HP (k := 3) hM (by decide) y2 (xe_vA y3 h))))⟩
  · rw [if_neg c] at h
    have y0 := pn_fA_01 (M := M) (se := se) (p := p) (k := 0) (y := 0) (Or.inl rfl)
    have y1 := pn_fA_01 (M := M) (se := se) (p := p) (k := 1) y0
    have y2 := pn_fA_01 (M := M) (se := se) (p := p) (k := 2) y1
    have y3 := pn_fA_01 (M := M) (se := se) (p := p) (k := 3) y2
    exact br_f c ⟨5, xs_vA HP (k := 0) hM (by decide) (Or.inl rfl) (xs_vA HP (k := 1) hM (by decide) y0 (xs_vA HP (k := 2) hM (by decide) y1 (xs_vA HP (k := 3) hM (by decide) y2 (xe_vA y3 h))))⟩
theorem xs_vN (HP : pn_P P p) {n k : Nat} {M : Nat → Int32} {y : Int32} (hM : ∀ f, f < 7 → ih f = M f) (hk : k < 4) (hy : y = 0 ∨ y = 1) (h : wX_isValidNak_23 post1 P C T F K rc st rs ti ni cr hc nk ms ei us dn sa fi lo hi wa ic se lc rm w q ih vd ro no n (pn_fN M se p k y) (nI (k + 1))) : wX_isValidNak_23 post1 P C T F K rc st rs ti ni cr hc nk ms ei us dn sa fi lo hi wa ic se lc rm w q ih vd ro no (n + 1) y (nI k) := by
  refine br_f (pp_g4 hk) ?_
  rw [pp_3 hk, pp_4 HP hk, hM (3 + k) (by omega)]
  rcases hy with rfl | rfl
  · rw [show pn_fN M se p k 0 = 0 from by unfold pn_fN; split <;> (try split) <;> rfl] at h
    exact br_t rfl (nm_r (nI_1 k) h)
  · refine br_f (by decide) ⟨pp_v3 hk, ?_⟩
    by_cases c : M (3 + k) = -1
    · rw [show pn_fN M se p k 1 = 1 from if_pos c] at h
      exact br_t c (nm_r (nI_1 k) h)
    · refine br_f c ⟨pp_v4 HP hk, ?_⟩
      by_cases c2 : se (p * 4 + k) = -1
      · rw [show pn_fN M se p k 1 = 0 from (if_neg c).trans (if_pos c2)] at h
        exact br_t c2 (nm_r (nI_1 k) h)
      · rw [show pn_fN M se p k 1 = 1 from (if_neg c).trans (if_neg c2)] at h
        exact br_f c2 (nm_r (nI_1 k) h)
theorem xe_vN {n : Nat} {y : Int32} (hy : y = 0 ∨ y = 1) (h : post1 y) : wX_isValidNak_23 post1 P C T F K rc st rs ti ni cr hc nk ms ei us dn sa fi lo hi wa ic se lc rm w q ih vd ro no (n + 1) y (nI 4) := by
  rcases hy with rfl | rfl
  · exact br_t pp_44 ⟨rfl, h⟩
  · exact br_t pp_44 ⟨rfl, h⟩
theorem xa_vN (HP : pn_P P p) {M : Nat → Int32} (hM : ∀ f, f < 7 → ih f = M f) (h : post1 (pn_gN M se p (if M 1 = cr p then 1 else 0))) : wpX_isValidNak post1 (C, T, F, K, rc, st, rs, ti, ni, cr, hc, nk, ms, ei, us, dn, sa, fi, lo, hi, wa, ic, se, lc, rm, w, q, ih, vd, ro, no) P := by
  unfold wpX_isValidNak
  refine ⟨pp_v HP, ?_⟩
  rw [pp_n HP, hM 1 (by decide)]
  by_cases c : M 1 = cr p
  · rw [if_pos c] at h
    have y0 := pn_fN_01 (M := M) (se := se) (p := p) (k := 0) (y := 1) (Or.inr rfl)
    have y1 := pn_fN_01 (M := M) (se := se) (p := p) (k := 1) y0
    have y2 := pn_fN_01 (M := M) (se := se) (p := p) (k := 2) y1
    have y3 := pn_fN_01 (M := M) (se := se) (p := p) (k := 3) y2
    exact br_t c ⟨5, xs_vN HP (k := 0) hM (by decide) (Or.inr rfl) (xs_vN HP (k := 1) hM (by decide) y0 (xs_vN HP (k := 2) hM (by decide) y1 (xs_vN HP (k := 3) hM (by decide) y2 (xe_vN y3 h))))⟩
  · rw [if_neg c] at h
    have y0 := pn_fN_01 (M := M) (se := se) (p := p) (k := 0) (y := 0) (Or.inl rfl)
    have y1 := pn_fN_01 (M := M) (se := se) (p := p) (k := 1) y0
    have y2 := pn_fN_01 (M := M) (se := se) (p := p) (k := 2) y1
    have y3 := pn_fN_01 (M := M) (se := se) (p := p) (k := 3) y2
    exact br_f c ⟨5, xs_vN HP (k := 0) hM (by decide) (Or.inl rfl) (xs_vN HP (k := 1) hM (by decide) y0 (xs_vN HP (k := 2) hM (by decide) y1 (xs_vN HP (k := 3) hM (by decide) y2 (xe_vN y3 h))))⟩
theorem xs_vR (HP : pn_P P p) {n k : Nat} {M : Nat → Int32} {y : Int32} (hM : ∀ f, f < 7 → ih f = M f) (hk : k < 4) (hy : y = 0 ∨ y = 1) (h : wX_isValidReject_23 post1 P C T F K rc st rs ti ni cr hc nk ms ei us dn sa fi lo hi wa ic se lc rm w q ih vd ro no n (pn_fR M se p k y) (nI (k + 1))) : wX_isValidReject_23 post1 P C T F K rc st rs ti ni cr hc nk ms ei us dn sa fi lo hi wa ic se lc rm w q ih vd ro no (n + 1) y (nI k) := by
  refine br_f (pp_g4 hk) ?_
  rw [pp_3 hk, pp_4 HP hk, hM (3 + k) (by omega)]
  refine ⟨pp_v3 hk, ?_⟩
  intro x4 e4
  subst e4
  rcases hy with rfl | rfl
  · rw [show pn_fR M se p k 0 = 0 from by unfold pn_fR; split <;> (try split) <;> rfl] at h
    exact br_t rfl (nm_r (nI_1 k) h)
  · refine br_f (by decide) ?_
    by_cases c : M (3 + k) = -1
    · rw [show pn_fR M se p k 1 = 1 from if_pos c] at h
      exact br_t c (nm_r (nI_1 k) h)
    · refine br_f c ⟨pp_v4 HP hk, ?_⟩
      by_cases c2 : M (3 + k) = se (p * 4 + k)
      · rw [show pn_fR M se p k 1 = 1 from (if_neg c).trans (if_pos c2)] at h
        exact br_t c2 (nm_r (nI_1 k) h)
      · rw [show pn_fR M se p k 1 = 0 from (if_neg c).trans (if_neg c2)] at h
        exact br_f c2 (nm_r (nI_1 k) h)
theorem xe_vR {n : Nat} {y : Int32} (hy : y = 0 ∨ y = 1) (h : post1 y) : wX_isValidReject_23 post1 P C T F K rc st rs ti ni cr hc nk ms ei us dn sa fi lo hi wa ic se lc rm w q ih vd ro no (n + 1) y (nI 4) := by
  rcases hy with rfl | rfl
  · exact br_t pp_44 ⟨rfl, h⟩
  · exact br_t pp_44 ⟨rfl, h⟩
theorem xa_vR (HP : pn_P P p) {M : Nat → Int32} (hM : ∀ f, f < 7 → ih f = M f) (h : post1 (pn_gR M se p (if M 1 = cr p then 1 else 0))) : wpX_isValidReject post1 (C, T, F, K, rc, st, rs, ti, ni, cr, hc, nk, ms, ei, us, dn, sa, fi, lo, hi, wa, ic, se, lc, rm, w, q, ih, vd, ro, no) P := by
  unfold wpX_isValidReject
  refine ⟨pp_v HP, ?_⟩
  rw [pp_n HP, hM 1 (by decide)]
  by_cases c : M 1 = cr p
  · rw [if_pos c] at h
    have y0 := pn_fR_01 (M := M) (se := se) (p := p) (k := 0) (y := 1) (Or.inr rfl)
    have y1 := pn_fR_01 (M := M) (se := se) (p := p) (k := 1) y0
    have y2 := pn_fR_01 (M := M) (se := se) (p := p) (k := 2) y1
    have y3 := pn_fR_01 (M := M) (se := se) (p := p) (k := 3) y2
    exact br_t c ⟨5, xs_vR HP (k := 0) hM (by decide) (Or.inr rfl) (xs_vR HP (k := 1) hM (by decide) y0 (xs_vR HP (k := 2) hM (by decide) y1 (xs_vR HP (k := 3) hM (by decide) y2 (xe_vR y3 h))))⟩
  · rw [if_neg c] at h
    have y0 := pn_fR_01 (M := M) (se := se) (p := p) (k := 0) (y := 0) (Or.inl rfl)
    have y1 := pn_fR_01 (M := M) (se := se) (p := p) (k := 1) y0
    have y2 := pn_fR_01 (M := M) (se := se) (p := p) (k := 2) y1
    have y3 := pn_fR_01 (M := M) (se := se) (p := p) (k := 3) y2
    exact br_f c ⟨5, xs_vR HP (k := 0) hM (by decide) (Or.inl rfl) (xs_vR HP (k := 1) hM (by decide) y0 (xs_vR HP (k := 2) hM (by decide) y1 (xs_vR HP (k := 3) hM (by decide) y2 (xe_vR y3 h))))⟩
end PX
