section PY
variable {C T F K : Int32} {st rs ti ni cr hc nk ms ei us dn sa fi lo hi wa ic se lc rm w q mg ou rp ca sg : Nat → Int32} {P : Int32} {p : Nat} {post : SY → Prop}
variable {post1 : Int32 → Prop} {nf op : Nat → Int32}
theorem ya_lim {v l g : Int32} (h : post1 (pn_cl v l g)) : wpY_lim post1 (C, T, F, K, nf, op, w, q, mg, ou, rp, ca, sg) v l g := by
  unfold pn_cl at h
  refine br_c (fun h1 => ?_) (fun h1 => ?_)
  · rw [if_pos h1] at h
    refine br_c (fun h2 => ?_) (fun h2 => ?_)
    · rw [if_pos h2] at h; exact h
    · rw [if_neg h2] at h; exact h
  · rw [if_neg h1] at h; exact h
theorem ya_st (HP : pn_P P p) (h : post1 (st p)) : wpY_st post1 (C, T, F, K, pn_I st rs ti ni cr hc nk ms ei us dn sa fi, pn_O lo hi wa ic se lc rm, w, q, mg, ou, rp, ca, sg) P := by
  unfold wpY_st
  refine ⟨pp_vi0 HP, ?_⟩
  rw [pp_i0 HP, pn_I_a0]
  exact h
theorem ye_fin (HP : pn_P P p) (h : post (C, T, F, K, pn_I st rs (upd ti p 0) ni cr hc nk ms ei us dn sa fi, pn_O lo hi wa ic se lc rm, w, q, mg, ou, rp, ca, sg)) : wY_fin_21 post P C T F K (pn_I st rs ti ni cr hc nk ms ei us dn sa fi) (pn_O lo hi wa ic se lc rm) w q mg ou rp ca sg := by
  unfold wY_fin_21
  rw [pp_i2 HP, pn_I_u2]
  exact ⟨pp_vi2 HP, nm_e h⟩
theorem ya_fin1 (HP : pn_P P p) {N : Int32} (e4 : ¬ N < 4) (e8 : N ≤ 8) (h : post (C, T, F, K, pn_I (upd st p N) rs ti ni cr hc nk ms ei us dn sa fi, pn_O lo hi wa ic se lc rm, w, q, mg, ou, rp, ca, sg)) : wpY_fin post (C, T, F, K, pn_I st rs ti ni cr hc nk ms ei us dn sa fi, pn_O lo hi wa ic se lc rm, w, q, mg, ou, rp, ca, sg) P N := by
  unfold wpY_fin
  refine ⟨pp_vi0 HP, ?_⟩
  rw [pp_i0 HP, pn_I_u0]
  exact nm_e (br_f e4 (br_t e8 h))
theorem ya_fin0 (HP : pn_P P p) {N : Int32} (e : N < 4 ∨ (¬ N < 4 ∧ ¬ N ≤ 8)) (h : post (C, T, F, K, pn_I (upd st p N) rs (upd ti p 0) ni cr hc nk ms ei us dn sa fi, pn_O lo hi wa ic se lc rm, w, q, mg, ou, rp, ca, sg)) : wpY_fin post (C, T, F, K, pn_I st rs ti ni cr hc nk ms ei us dn sa fi, pn_O lo hi wa ic se lc rm, w, q, mg, ou, rp, ca, sg) P N := by
  unfold wpY_fin
  refine ⟨pp_vi0 HP, ?_⟩
  rw [pp_i0 HP, pn_I_u0]
  refine nm_e ?_
  rcases e with e4 | ⟨e4, e8⟩
  · exact br_t e4 (ye_fin HP h)
  · exact br_f e4 (br_f e8 (ye_fin HP h))
theorem ya_fins1 (HP : pn_P P p) {N : Int32} (es : st p = N) (e4 : ¬ N < 4) (e8 : N ≤ 8) (h : post (C, T, F, K, pn_I st rs ti ni cr hc nk ms ei us dn sa fi, pn_O lo hi wa ic se lc rm, w, q, mg, ou, rp, ca, sg)) : wpY_fin post (C, T, F, K, pn_I st rs ti ni cr hc nk ms ei us dn sa fi, pn_O lo hi wa ic se lc rm, w, q, mg, ou, rp, ca, sg) P N :=
  ya_fin1 HP e4 e8 (by rw [pn_self st p N es]; exact h)
theorem ya_fins0 (HP : pn_P P p) {N : Int32} (es : st p = N) (e : N < 4 ∨ (¬ N < 4 ∧ ¬ N ≤ 8)) (h : post (C, T, F, K, pn_I st rs (upd ti p 0) ni cr hc nk ms ei us dn sa fi, pn_O lo hi wa ic se lc rm, w, q, mg, ou, rp, ca, sg)) : wpY_fin post (C, T, F, K, pn_I st rs ti ni cr hc nk ms ei us dn sa fi, pn_O lo hi wa ic se lc rm, w, q, mg, ou, rp, ca, sg) P N :=
  ya_fin0 HP e (by rw [pn_self st p N es]; exact h)
theorem ys_out {n k : Nat} (hk : k < 4) (h : wY_setOut_24 post C T F K n (nI (k + 1)) nf op w q mg (upd ou (3 + k) (-1)) rp ca sg) : wY_setOut_24 post C T F K (n + 1) (nI k) nf op w q mg ou rp ca sg := by
  refine br_f (pp_g4 hk) ?_
  rw [pp_3 hk]
  exact ⟨pp_v3 hk, nm_e (nm_r (nI_1 k) h)⟩
theorem ya_out {c i d : Int32} (h : post (C, T, F, K, nf, op, w, q, mg, pn_l7 ou (pn_m c i d (-1) (-1) (-1) (-1)), rp, ca, sg)) : wpY_setOut post (C, T, F, K, nf, op, w, q, mg, ou, rp, ca, sg) c i d :=
  nm_e (nm_e (nm_e ⟨5, ys_out (k := 0) (by decide) (ys_out (k := 1) (by decide) (ys_out (k := 2) (by decide) (ys_out (k := 3) (by decide) (br_t pp_44 h))))⟩))
theorem ys_push {n b k : Nat} {x : Int32} (hb : b ≤ 105) (hx : ou k = x) (hk : k < 7) (h : wY_push_28 post P (nI b) C T F K n (nI (k + 1)) nf op (upd w (b + k) x) q mg ou rp ca sg) : wY_push_28 post P (nI b) C T F K (n + 1) (nI k) nf op w q mg ou rp ca sg := by
  refine br_f (pp_g7 hk) ?_
  rw [pp_bk hb hk, nI_clamp (n := k) (by omega), hx]
  exact ⟨vp_in_nI hk (by decide), pp_vbk hb hk, nm_e (nm_r (nI_1 k) h)⟩
theorem ye_push (HP : pn_P P p) {n b : Nat} (h : post (C, T, F, K, nf, op, w, upd q p (q p + 1), mg, ou, rp, ca, sg)) : wY_push_28 post P (nI b) C T F K (n + 1) (nI 7) nf op w q mg ou rp ca sg := by
  refine br_t pp_77 ⟨pp_v HP, pp_v HP, ?_⟩
  rw [pp_n HP]
  exact nm_e h
theorem ya_push (HP : pn_P P p) {s : Nat} (hs : q p = nI s) (hs8 : s ≤ 8) {c i d x0 x1 x2 x3 : Int32} (e0 : ou 0 = c) (e1 : ou 1 = i) (e2 : ou 2 = d) (e3 : ou 3 = x0) (e4 : ou 4 = x1) (e5 : ou 5 = x2) (e6 : ou 6 = x3) (h : post (C, T, F, K, nf, op, pn_aw w q p c i d x0 x1 x2 x3, pn_aq q p, mg, ou, rp, ca, sg)) : wpY_push post (C, T, F, K, nf, op, w, q, mg, ou, rp, ca, sg) P := by
  have pv := pp_v HP
  unfold wpY_push
  refine ⟨pv, ?_⟩
  rw [pp_n HP, hs]
  by_cases h8 : s < 8
  · have hb : p * 56 + s * 7 ≤ 105 := by have := pp_lt HP; omega
    rw [pn_aw_lt hs h8, pn_aq_lt hs h8] at h
    refine br_f (nI_ge (b := 8) h8 (by decide)) ⟨pv, ?_⟩
    intro y7 e7
    rw [pp_y HP] at e7
    subst e7
    exact ⟨8, ys_push hb e0 (by decide) (ys_push hb e1 (by decide) (ys_push hb e2 (by decide) (ys_push hb e3 (by decide) (ys_push hb e4 (by decide) (ys_push hb e5 (by decide) (ys_push hb e6 (by decide) (ye_push HP h)))))))⟩
  · rw [pn_aw_ge hs h8 hs8, pn_aq_ge hs h8 hs8] at h
    exact br_t (nI_le (a := 8) (by omega) (by omega)) h
theorem ye_spend (HP : pn_P P p) (h : post (C, T, F, K, pn_I st rs (upd ti p K) ni cr hc nk ms ei us dn sa fi, pn_O lo hi wa ic se lc rm, w, q, mg, ou, rp, ca, sg)) : wY_spend_29 post P C T F K (pn_I st rs ti ni cr hc nk ms ei us dn sa fi) (pn_O lo hi wa ic se lc rm) w q mg ou rp ca sg := by
  unfold wY_spend_29
  rw [pp_i2 HP, pn_I_u2]
  exact ⟨pp_vi2 HP, nm_e h⟩
theorem ya_spend (HP : pn_P P p) (h : post (C, T, F, K, pn_I st (pn_sp rs p) (upd ti p K) ni cr hc nk ms ei us dn sa fi, pn_O lo hi wa ic se lc rm, w, q, mg, ou, rp, ca, sg)) : wpY_spend post (C, T, F, K, pn_I st rs ti ni cr hc nk ms ei us dn sa fi, pn_O lo hi wa ic se lc rm, w, q, mg, ou, rp, ca, sg) P := by
  have v1 := pp_vi1 HP
  unfold wpY_spend
  refine ⟨v1, ?_⟩
  rw [pp_i1 HP, pn_I_a1, pn_I_u1]
  by_cases hr : rs p ≤ 0
  · rw [show pn_sp rs p = rs from if_pos hr] at h
    exact br_t hr (ye_spend HP h)
  · rw [show pn_sp rs p = upd rs p (rs p - 1) from if_neg hr] at h
    exact br_f hr ⟨v1, v1, nm_e (ye_spend HP h)⟩
theorem ya_ircC (HP : pn_P P p) (h : post (C, T, F, K, pn_I st (upd rs p C) ti ni cr hc nk ms ei us dn sa fi, pn_O lo hi wa ic se lc rm, w, q, mg, ou, rp, ca, sg)) : wpY_ircC post (C, T, F, K, pn_I st rs ti ni cr hc nk ms ei us dn sa fi, pn_O lo hi wa ic se lc rm, w, q, mg, ou, rp, ca, sg) P := by
  unfold wpY_ircC
  refine ⟨pp_vi1 HP, ?_⟩
  rw [pp_i1 HP, pn_I_u1]
  exact nm_e h
theorem ya_ircT (HP : pn_P P p) (h : post (C, T, F, K, pn_I st (upd rs p T) ti ni cr hc nk ms ei us dn sa fi, pn_O lo hi wa ic se lc rm, w, q, mg, ou, rp, ca, sg)) : wpY_ircT post (C, T, F, K, pn_I st rs ti ni cr hc nk ms ei us dn sa fi, pn_O lo hi wa ic se lc rm, w, q, mg, ou, rp, ca, sg) P := by
  unfold wpY_ircT
  refine ⟨pp_vi1 HP, ?_⟩
  rw [pp_i1 HP, pn_I_u1]
  exact nm_e h
theorem ya_zrc (HP : pn_P P p) (h : post (C, T, F, K, pn_I st (upd rs p 0) (upd ti p K) ni cr hc nk ms ei us dn sa fi, pn_O lo hi wa ic se lc rm, w, q, mg, ou, rp, ca, sg)) : wpY_zrc post (C, T, F, K, pn_I st rs ti ni cr hc nk ms ei us dn sa fi, pn_O lo hi wa ic se lc rm, w, q, mg, ou, rp, ca, sg) P := by
  unfold wpY_zrc
  refine ⟨pp_vi1 HP, ?_⟩
  rw [pp_i1 HP, pp_i2 HP, pn_I_u1]
  refine nm_e ⟨pp_vi2 HP, ?_⟩
  rw [pn_I_u2]
  exact nm_e h
theorem ya_tlu (HP : pn_P P p) (h : post (C, T, F, K, pn_I st rs ti ni cr hc nk (upd ms p 0) ei (upd us p (us p + 1)) dn sa fi, pn_O lo hi wa ic se lc rm, w, q, mg, ou, rp, ca, sg)) : wpY_tlu post (C, T, F, K, pn_I st rs ti ni cr hc nk ms ei us dn sa fi, pn_O lo hi wa ic se lc rm, w, q, mg, ou, rp, ca, sg) P := by
  unfold wpY_tlu
  refine ⟨pp_vi9 HP, pp_vi9 HP, ?_⟩
  rw [pp_i9 HP, pp_i7 HP, pn_I_a9, pn_I_u9]
  refine nm_e ⟨pp_vi7 HP, ?_⟩
  rw [pn_I_u7]
  exact nm_e h
theorem ya_tld (HP : pn_P P p) (h : post (C, T, F, K, pn_I st rs ti ni cr hc nk ms ei us (upd dn p (dn p + 1)) sa fi, pn_O lo hi wa ic se lc rm, w, q, mg, ou, rp, ca, sg)) : wpY_tld post (C, T, F, K, pn_I st rs ti ni cr hc nk ms ei us dn sa fi, pn_O lo hi wa ic se lc rm, w, q, mg, ou, rp, ca, sg) P := by
  unfold wpY_tld
  refine ⟨pp_vi10 HP, pp_vi10 HP, ?_⟩
  rw [pp_i10 HP, pn_I_a10, pn_I_u10]
  exact nm_e h
theorem ya_tls (HP : pn_P P p) (h : post (C, T, F, K, pn_I st rs ti ni cr hc nk ms ei us dn (upd sa p (sa p + 1)) fi, pn_O lo hi wa ic se lc rm, w, q, mg, ou, rp, ca, sg)) : wpY_tls post (C, T, F, K, pn_I st rs ti ni cr hc nk ms ei us dn sa fi, pn_O lo hi wa ic se lc rm, w, q, mg, ou, rp, ca, sg) P := by
  unfold wpY_tls
  refine ⟨pp_vi11 HP, pp_vi11 HP, ?_⟩
  rw [pp_i11 HP, pn_I_a11, pn_I_u11]
  exact nm_e h
theorem ya_tlf (HP : pn_P P p) (h : post (C, T, F, K, pn_I st rs ti ni cr hc nk ms ei us dn sa (upd fi p (fi p + 1)), pn_O lo hi wa ic se lc rm, w, q, mg, ou, rp, ca, sg)) : wpY_tlf post (C, T, F, K, pn_I st rs ti ni cr hc nk ms ei us dn sa fi, pn_O lo hi wa ic se lc rm, w, q, mg, ou, rp, ca, sg) P := by
  unfold wpY_tlf
  refine ⟨pp_vi12 HP, pp_vi12 HP, ?_⟩
  rw [pp_i12 HP, pn_I_a12, pn_I_u12]
  exact nm_e h
theorem ys_start (HP : pn_P P p) {n k : Nat} (hk : k < 4) (h : wY_start_2 post P C T F K n (nI (k + 1)) (pn_I st rs ti ni cr hc nk ms ei us dn sa fi) (pn_O lo hi (upd wa (p * 4 + k) (hi (p * 4 + k))) (upd ic (p * 4 + k) (pn_in lo hi p k)) se lc rm) w q mg ou rp ca sg) : wY_start_2 post P C T F K (n + 1) (nI k) (pn_I st rs ti ni cr hc nk ms ei us dn sa fi) (pn_O lo hi wa ic se lc rm) w q mg ou rp ca sg := by
  refine br_f (pp_g4 hk) ?_
  intro x3 e3
  have o0 : (x3).toNatClampNeg = (p * 4 + k) * 7 + 0 := by rw [e3]; exact pp_o0 HP hk
  have v0 : vp_in (x3) 56 := by rw [e3]; exact pp_vo0 HP hk
  have o1 : (x3 + 1).toNatClampNeg = (p * 4 + k) * 7 + 1 := by rw [e3]; exact pp_o1 HP hk
  have v1 : vp_in (x3 + 1) 56 := by rw [e3]; exact pp_vo1 HP hk
  have o2 : (x3 + 2).toNatClampNeg = (p * 4 + k) * 7 + 2 := by rw [e3]; exact pp_o2 HP hk
  have v2 : vp_in (x3 + 2) 56 := by rw [e3]; exact pp_vo2 HP hk
  have o3 : (x3 + 3).toNatClampNeg = (p * 4 + k) * 7 + 3 := by rw [e3]; exact pp_o3 HP hk
  have v3 : vp_in (x3 + 3) 56 := by rw [e3]; exact pp_vo3 HP hk
  rw [o0, o1, o2, o3, pn_O_a1, pn_O_u2]
  refine ⟨v1, v2, nm_e ⟨v0, v1, ?_⟩⟩
  rw [pn_O_a1, pn_O_a0, pn_O_u3, pn_O_u3]
  by_cases hc1 : hi (p * 4 + k) < lo (p * 4 + k)
  · rw [show pn_in lo hi p k = 0 from if_pos hc1] at h
    exact br_t hc1 ⟨v3, nm_e (nm_r (nI_1 k) h)⟩
  · rw [show pn_in lo hi p k = 1 from if_neg hc1] at h
    exact br_f hc1 ⟨v3, nm_e (nm_r (nI_1 k) h)⟩
theorem ye_start (HP : pn_P P p) {n : Nat} (h : post (C, T, F, K, pn_I st rs ti ni cr hc (upd nk p 0) ms ei us dn sa fi, pn_O lo hi wa ic se lc rm, w, q, mg, ou, rp, ca, sg)) : wY_start_2 post P C T F K (n + 1) (nI 4) (pn_I st rs ti ni cr hc nk ms ei us dn sa fi) (pn_O lo hi wa ic se lc rm) w q mg ou rp ca sg := by
  refine br_t pp_44 ⟨pp_vi6 HP, ?_⟩
  rw [pp_i6 HP, pn_I_u6]
  exact nm_e h
theorem ya_start (HP : pn_P P p) (h : post (C, T, F, K, pn_I st rs ti ni cr hc (upd nk p 0) ms ei us dn sa fi, pn_O lo hi (pn_4 wa (p * 4) (pn_hi hi p)) (pn_4 ic (p * 4) (pn_in lo hi p)) se lc rm, w, q, mg, ou, rp, ca, sg)) : wpY_start post (C, T, F, K, pn_I st rs ti ni cr hc nk ms ei us dn sa fi, pn_O lo hi wa ic se lc rm, w, q, mg, ou, rp, ca, sg) P :=
  ⟨5, ys_start HP (k := 0) (by decide) (ys_start HP (k := 1) (by decide) (ys_start HP (k := 2) (by decide) (ys_start HP (k := 3) (by decide) (ye_start HP h))))⟩
theorem ys_scr (HP : pn_P P p) {n k : Nat} (hk : k < 4) (hic : ic (p * 4 + k) = 0 ∨ ic (p * 4 + k) = 1) (h : wY_scr_56 post P C T F K n (nI (k + 1)) (pn_I st rs ti ni cr hc nk ms ei us dn sa fi) (pn_O lo hi wa ic (upd se (p * 4 + k) (pn_g ic wa p k)) lc rm) w q mg (upd ou (3 + k) (pn_g ic wa p k)) rp ca sg) : wY_scr_56 post P C T F K (n + 1) (nI k) (pn_I st rs ti ni cr hc nk ms ei us dn sa fi) (pn_O lo hi wa ic se lc rm) w q mg ou rp ca sg := by
  refine br_f (pp_g4 hk) ?_
  intro x3 e3
  have o2 : (x3 + 2).toNatClampNeg = (p * 4 + k) * 7 + 2 := by rw [e3]; exact pp_o2 HP hk
  have v2 : vp_in (x3 + 2) 56 := by rw [e3]; exact pp_vo2 HP hk
  have o3 : (x3 + 3).toNatClampNeg = (p * 4 + k) * 7 + 3 := by rw [e3]; exact pp_o3 HP hk
  have v3 : vp_in (x3 + 3) 56 := by rw [e3]; exact pp_vo3 HP hk
  have o4 : (x3 + 4).toNatClampNeg = (p * 4 + k) * 7 + 4 := by rw [e3]; exact pp_o4 HP hk
  have v4 : vp_in (x3 + 4) 56 := by rw [e3]; exact pp_vo4 HP hk
  unfold wY_scr_101
  rw [o2, o3, o4, pn_O_a2, pn_O_a3, pn_O_u4, pn_O_u4, pp_3 hk]
  refine ⟨v3, ?_⟩
  rcases hic with hc1 | hc1
  · rw [show pn_g ic wa p k = -1 from if_pos hc1] at h
    refine br_f (by rw [hc1]; decide) ⟨v4, nm_e ⟨v4, pp_v3 hk, ?_⟩⟩
    rw [pn_O_a4, pn_at]
    exact nm_e (nm_r (nI_1 k) h)
  · rw [show pn_g ic wa p k = wa (p * 4 + k) from if_neg (by rw [hc1]; decide)] at h
    refine br_t hc1 ⟨v2, v4, nm_e ⟨v4, pp_v3 hk, ?_⟩⟩
    rw [pn_O_a4, pn_at]
    exact nm_e (nm_r (nI_1 k) h)
theorem ye_scr (HP : pn_P P p) {n s : Nat} (hs : q p = nI s) (hs8 : s ≤ 8) {i x0 x1 x2 x3 : Int32} (e0 : ou 0 = 1) (e1 : ou 1 = i) (e2 : ou 2 = 0) (e3 : ou 3 = x0) (e4 : ou 4 = x1) (e5 : ou 5 = x2) (e6 : ou 6 = x3) (h : post (C, T, F, K, pn_I st (pn_sp rs p) (upd ti p K) ni cr hc nk ms ei us dn sa fi, pn_O lo hi wa ic se lc rm, pn_aw w q p 1 i 0 x0 x1 x2 x3, pn_aq q p, mg, ou, rp, ca, sg)) : wY_scr_56 post P C T F K (n + 1) (nI 4) (pn_I st rs ti ni cr hc nk ms ei us dn sa fi) (pn_O lo hi wa ic se lc rm) w q mg ou rp ca sg :=
  br_t pp_44 (ya_push HP hs hs8 e0 e1 e2 e3 e4 e5 e6 (ya_spend HP h))
theorem ya_scr (HP : pn_P P p) (VO : pn_VO lo hi ic) {s : Nat} (hs : q p = nI s) (hs8 : s ≤ 8) (h : ∀ ou', post (C, T, F, K, pn_I st (pn_sp rs p) (upd ti p K) (upd ni p (ni p + 1)) (upd cr p (ni p + 1)) hc nk ms ei us dn sa fi, pn_O lo hi wa ic (pn_4 se (p * 4) (pn_g ic wa p)) lc rm, pn_aw w q p 1 (ni p + 1) 0 (pn_g ic wa p 0) (pn_g ic wa p 1) (pn_g ic wa p 2) (pn_g ic wa p 3), pn_aq q p, mg, ou', rp, ca, sg)) : wpY_scr post (C, T, F, K, pn_I st rs ti ni cr hc nk ms ei us dn sa fi, pn_O lo hi wa ic se lc rm, w, q, mg, ou, rp, ca, sg) P := by
  have hp := pp_lt HP
  have hic : ∀ k, k < 4 → ic (p * 4 + k) = 0 ∨ ic (p * 4 + k) = 1 := fun k hk => (VO (p * 4 + k) (by omega)).2
  unfold wpY_scr
  refine ⟨pp_vi3 HP, pp_vi3 HP, ?_⟩
  rw [pp_i3 HP, pp_i4 HP, pn_I_a3, pn_I_u3]
  refine nm_e ⟨pp_vi3 HP, pp_vi4 HP, ?_⟩
  rw [pn_I_a3, pn_at, pn_I_u4]
  refine nm_e ⟨pp_vi4 HP, ?_⟩
  rw [pn_I_a4, pn_at]
  refine ya_out ⟨5, ?_⟩
  refine ys_scr HP (k := 0) (by decide) (hic 0 (by decide)) (ys_scr HP (k := 1) (by decide) (hic 1 (by decide)) (ys_scr HP (k := 2) (by decide) (hic 2 (by decide)) (ys_scr HP (k := 3) (by decide) (hic 3 (by decide)) (ye_scr HP hs hs8 (i := ni p + 1) (x0 := pn_g ic wa p 0) (x1 := pn_g ic wa p 1) (x2 := pn_g ic wa p 2) (x3 := pn_g ic wa p 3) rfl rfl rfl rfl rfl rfl rfl (h _)))))
theorem ya_send0 (HP : pn_P P p) {s : Nat} (hs : q p = nI s) (hs8 : s ≤ 8) {c i d : Int32} (h : ∀ ou', post (C, T, F, K, nf, op, pn_aw w q p c i d (-1) (-1) (-1) (-1), pn_aq q p, mg, ou', rp, ca, sg)) : wpY_setOut (fun u => wpY_push post u P) (C, T, F, K, nf, op, w, q, mg, ou, rp, ca, sg) c i d :=
  ya_out (ya_push HP hs hs8 rfl rfl rfl rfl rfl rfl rfl (h _))
theorem ya_str (HP : pn_P P p) {s : Nat} (hs : q p = nI s) (hs8 : s ≤ 8) (h : ∀ ou', post (C, T, F, K, pn_I st (pn_sp rs p) (upd ti p K) (upd ni p (ni p + 1)) cr hc nk ms ei us dn sa fi, pn_O lo hi wa ic se lc rm, pn_aw w q p 5 (ni p + 1) 0 (-1) (-1) (-1) (-1), pn_aq q p, mg, ou', rp, ca, sg)) : wpY_str post (C, T, F, K, pn_I st rs ti ni cr hc nk ms ei us dn sa fi, pn_O lo hi wa ic se lc rm, w, q, mg, ou, rp, ca, sg) P := by
  unfold wpY_str
  refine ⟨pp_vi3 HP, pp_vi3 HP, ?_⟩
  rw [pp_i3 HP, pn_I_a3, pn_I_u3]
  refine nm_e ⟨pp_vi3 HP, ?_⟩
  rw [pn_I_a3, pn_at]
  exact ya_out (ya_push HP hs hs8 rfl rfl rfl rfl rfl rfl rfl (ya_spend HP (h _)))
theorem ya_sta (HP : pn_P P p) {s : Nat} (hs : q p = nI s) (hs8 : s ≤ 8) {M1 : Int32} (h1 : mg 1 = M1) (h : ∀ ou', post (C, T, F, K, pn_I st rs ti ni cr hc nk ms ei us dn sa fi, pn_O lo hi wa ic se lc rm, pn_aw w q p 6 M1 0 (-1) (-1) (-1) (-1), pn_aq q p, mg, ou', rp, ca, sg)) : wpY_sta post (C, T, F, K, pn_I st rs ti ni cr hc nk ms ei us dn sa fi, pn_O lo hi wa ic se lc rm, w, q, mg, ou, rp, ca, sg) P := by
  unfold wpY_sta
  refine ya_out ?_
  rw [h1]
  exact (ya_push HP hs hs8 rfl rfl rfl rfl rfl rfl rfl (h _))
theorem ya_scj (HP : pn_P P p) {s : Nat} (hs : q p = nI s) (hs8 : s ≤ 8) {M0 : Int32} (h1 : mg 0 = M0) (h : ∀ ou', post (C, T, F, K, pn_I st rs ti (upd ni p (ni p + 1)) cr hc nk ms ei us dn sa fi, pn_O lo hi wa ic se lc rm, pn_aw w q p 7 (ni p + 1) M0 (-1) (-1) (-1) (-1), pn_aq q p, mg, ou', rp, ca, sg)) : wpY_scj post (C, T, F, K, pn_I st rs ti ni cr hc nk ms ei us dn sa fi, pn_O lo hi wa ic se lc rm, w, q, mg, ou, rp, ca, sg) P := by
  unfold wpY_scj
  refine ⟨pp_vi3 HP, pp_vi3 HP, ?_⟩
  rw [pp_i3 HP, pn_I_a3, pn_I_u3, h1]
  refine nm_e ⟨pp_vi3 HP, ?_⟩
  rw [pn_I_a3, pn_at]
  exact ya_out (ya_push HP hs hs8 rfl rfl rfl rfl rfl rfl rfl (h _))
theorem ys_sca (HP : pn_P P p) {n k : Nat} {R : Nat → Int32} (hR : mg (3 + k) = R k) (hk : k < 4) (h : wY_sca_14 post P C T F K n (nI (k + 1)) (pn_I st rs ti ni cr hc nk ms ei us dn sa fi) (pn_O lo hi wa ic se lc (upd rm (p * 4 + k) (R k))) w q mg (upd ou (3 + k) (R k)) rp ca sg) : wY_sca_14 post P C T F K (n + 1) (nI k) (pn_I st rs ti ni cr hc nk ms ei us dn sa fi) (pn_O lo hi wa ic se lc rm) w q mg ou rp ca sg := by
  refine br_f (pp_g4 hk) ?_
  rw [pp_3 hk, pp_o6 HP hk, pn_O_u6, hR]
  exact ⟨pp_v3 hk, pp_v3 hk, nm_e ⟨pp_v3 hk, pp_vo6 HP hk, nm_e (nm_r (nI_1 k) h)⟩⟩
theorem ye_sca (HP : pn_P P p) {n s : Nat} (hs : q p = nI s) (hs8 : s ≤ 8) {i x0 x1 x2 x3 : Int32} (e0 : ou 0 = 2) (e1 : ou 1 = i) (e2 : ou 2 = 0) (e3 : ou 3 = x0) (e4 : ou 4 = x1) (e5 : ou 5 = x2) (e6 : ou 6 = x3) (h : post (C, T, F, K, pn_I st rs ti ni cr hc (upd nk p 0) ms ei us dn sa fi, pn_O lo hi wa ic se lc rm, pn_aw w q p 2 i 0 x0 x1 x2 x3, pn_aq q p, mg, ou, rp, ca, sg)) : wY_sca_14 post P C T F K (n + 1) (nI 4) (pn_I st rs ti ni cr hc nk ms ei us dn sa fi) (pn_O lo hi wa ic se lc rm) w q mg ou rp ca sg := by
  refine br_t pp_44 (ya_push HP hs hs8 e0 e1 e2 e3 e4 e5 e6 ?_)
  refine ⟨pp_vi6 HP, ?_⟩
  rw [pp_i6 HP, pn_I_u6]
  exact nm_e h
theorem ya_sca (HP : pn_P P p) {s : Nat} (hs : q p = nI s) (hs8 : s ≤ 8) {M1 : Int32} (h1 : mg 1 = M1) {R : Nat → Int32} (hR : ∀ k, k < 4 → mg (3 + k) = R k) (h : ∀ ou', post (C, T, F, K, pn_I st rs ti ni cr hc (upd nk p 0) ms ei us dn sa fi, pn_O lo hi wa ic se lc (pn_4 rm (p * 4) R), pn_aw w q p 2 M1 0 (R 0) (R 1) (R 2) (R 3), pn_aq q p, mg, ou', rp, ca, sg)) : wpY_sca post (C, T, F, K, pn_I st rs ti ni cr hc nk ms ei us dn sa fi, pn_O lo hi wa ic se lc rm, w, q, mg, ou, rp, ca, sg) P := by
  unfold wpY_sca
  refine ya_out ?_
  rw [h1]
  refine ⟨5, ?_⟩
  exact ys_sca HP (k := 0) (hR 0 (by decide)) (by decide) (ys_sca HP (k := 1) (hR 1 (by decide)) (by decide) (ys_sca HP (k := 2) (hR 2 (by decide)) (by decide) (ys_sca HP (k := 3) (hR 3 (by decide)) (by decide) (ye_sca HP hs hs8 (i := M1) (x0 := R 0) (x1 := R 1) (x2 := R 2) (x3 := R 3) rfl rfl rfl rfl rfl rfl rfl (h _)))))
theorem ys_scn {n k : Nat} {x : Int32} (hx : rp k = x) (hk : k < 7) (h : wY_scn_2 post P C T F K n (nI (k + 1)) (pn_I st rs ti ni cr hc nk ms ei us dn sa fi) (pn_O lo hi wa ic se lc rm) w q mg (upd ou k x) rp ca sg) : wY_scn_2 post P C T F K (n + 1) (nI k) (pn_I st rs ti ni cr hc nk ms ei us dn sa fi) (pn_O lo hi wa ic se lc rm) w q mg ou rp ca sg := by
  refine br_f (pp_g7 hk) ?_
  rw [nI_clamp (n := k) (by omega), hx]
  exact ⟨vp_in_nI hk (by decide), vp_in_nI hk (by decide), nm_e (nm_r (nI_1 k) h)⟩
theorem ye_scn (HP : pn_P P p) {n s : Nat} (hs : q p = nI s) (hs8 : s ≤ 8) {c i x0 x1 x2 x3 : Int32} (hc1 : rp 0 = c) (e0 : ou 0 = c) (e1 : ou 1 = i) (e2 : ou 2 = 0) (e3 : ou 3 = x0) (e4 : ou 4 = x1) (e5 : ou 5 = x2) (e6 : ou 6 = x3) (h : post (C, T, F, K, pn_I st rs ti ni cr hc (if c = 3 then upd nk p (nk p + 1) else nk) ms ei us dn sa fi, pn_O lo hi wa ic se lc rm, pn_aw w q p c i 0 x0 x1 x2 x3, pn_aq q p, mg, ou, rp, ca, sg)) : wY_scn_2 post P C T F K (n + 1) (nI 7) (pn_I st rs ti ni cr hc nk ms ei us dn sa fi) (pn_O lo hi wa ic se lc rm) w q mg ou rp ca sg := by
  refine br_t pp_77 (ya_push HP hs hs8 e0 e1 e2 e3 e4 e5 e6 ?_)
  by_cases h3 : c = 3
  · rw [if_pos h3] at h
    refine br_t (hc1.trans h3) ⟨pp_vi6 HP, pp_vi6 HP, ?_⟩
    rw [pp_i6 HP, pn_I_a6, pn_I_u6]
    exact nm_e h
  · rw [if_neg h3] at h
    exact br_f (by rw [hc1]; exact h3) h
theorem ya_scn (HP : pn_P P p) {s : Nat} (hs : q p = nI s) (hs8 : s ≤ 8) {c M1 : Int32} (hc1 : rp 0 = c) (h1 : rp 1 = M1) (h2 : rp 2 = 0) {R : Nat → Int32} (hR : ∀ k, k < 4 → rp (3 + k) = R k) (h : ∀ ou', post (C, T, F, K, pn_I st rs ti ni cr hc (if c = 3 then upd nk p (nk p + 1) else nk) ms ei us dn sa fi, pn_O lo hi wa ic se lc rm, pn_aw w q p c M1 0 (R 0) (R 1) (R 2) (R 3), pn_aq q p, mg, ou', rp, ca, sg)) : wpY_scn post (C, T, F, K, pn_I st rs ti ni cr hc nk ms ei us dn sa fi, pn_O lo hi wa ic se lc rm, w, q, mg, ou, rp, ca, sg) P :=
  ⟨8, ys_scn (k := 0) hc1 (by decide) (ys_scn (k := 1) h1 (by decide) (ys_scn (k := 2) h2 (by decide) (ys_scn (k := 3) (hR 0 (by decide)) (by decide) (ys_scn (k := 4) (hR 1 (by decide)) (by decide) (ys_scn (k := 5) (hR 2 (by decide)) (by decide) (ys_scn (k := 6) (hR 3 (by decide)) (by decide) (ye_scn HP hs hs8 (x0 := R 0) (x1 := R 1) (x2 := R 2) (x3 := R 3) hc1 rfl rfl rfl rfl rfl rfl rfl (h _))))))))⟩
theorem ys_pin {J : Int32 → (Nat → Int32) → (Nat → Int32) → (Nat → Int32) → (Nat → Int32) → (Nat → Int32) → (Nat → Int32) → (Nat → Int32) → (Nat → Int32) → (Nat → Int32) → Prop} {n b i k : Nat} (hb : b ≤ 56) (hi7 : i < 7) (hk : k < 7) (h : wY_popHead_56 post J P (nI b) (nI i) C T F K n (nI (k + 1)) nf op (pn_sh w b (i * 7 + (k + 1))) q mg ou rp ca sg) : wY_popHead_56 post J P (nI b) (nI i) C T F K (n + 1) (nI k) nf op (pn_sh w b (i * 7 + k)) q mg ou rp ca sg := by
  refine br_f (pp_g7 hk) ?_
  have e1 : nI b + nI i * 7 = nI (b + i * 7) := by
    rw [show nI i * 7 = nI (i * 7) from pn_mul i 7, nI_add]
  rw [e1, show nI (b + i * 7) + 7 = nI (b + i * 7 + 7) from nI_add _ 7, nI_add, nI_add, nI_clamp (n := b + i * 7 + 7 + k) (by omega), nI_clamp (n := b + i * 7 + k) (by omega)]
  refine ⟨vp_in_nI (by omega) (by decide), vp_in_nI (by omega) (by decide), ?_⟩
  have es := pn_shs w b (i * 7 + k)
  rw [show b + (i * 7 + k) = b + i * 7 + k from by omega] at es
  rw [show b + i * 7 + k + 7 = b + i * 7 + 7 + k from by omega] at es
  rw [es]
  exact nm_e (nm_r (nI_1 k) h)
theorem ye_pop (HP : pn_P P p) {s : Nat} (hs : q p = nI (s + 1)) (h : post (C, T, F, K, nf, op, w, upd q p (nI s), mg, ou, rp, ca, sg)) : wY_popHead_106 post P C T F K nf op w q mg ou rp ca sg := by
  unfold wY_popHead_106
  rw [pp_n HP, hs, nI_pred]
  exact ⟨pp_v HP, pp_v HP, nm_e h⟩
theorem ys_pout (HP : pn_P P p) {b s : Nat} (hb : b ≤ 56) (hs : q p = nI (s + 1)) (hs8 : s + 1 ≤ 8) (h : post (C, T, F, K, nf, op, pn_sh w b (s * 7), upd q p (nI s), mg, ou, rp, ca, sg)) : ∀ d i : Nat, i + d = s → wY_popHead_35 post P (nI b) C T F K (d + 1) (nI i) nf op (pn_sh w b (i * 7)) q mg ou rp ca sg := by
  intro d
  induction d with
  | zero =>
    intro i hd
    have e : i = s := by omega
    subst e
    refine ⟨pp_v HP, ?_⟩
    rw [pp_n HP, hs, nI_1]
    exact br_t (nI_le (Nat.le_refl _) (by omega)) (ye_pop HP hs h)
  | succ d IH =>
    intro i hd
    refine ⟨pp_v HP, ?_⟩
    rw [pp_n HP, hs, nI_1]
    refine br_f (nI_ge (by omega) (by omega)) (br_f (pp_g7 (by omega)) ⟨8, ?_⟩)
    have i7 : i < 7 := by omega
    refine ys_pin (k := 0) hb i7 (by decide) (ys_pin (k := 1) hb i7 (by decide) (ys_pin (k := 2) hb i7 (by decide) (ys_pin (k := 3) hb i7 (by decide) (ys_pin (k := 4) hb i7 (by decide) (ys_pin (k := 5) hb i7 (by decide) (ys_pin (k := 6) hb i7 (by decide) ?_))))))
    refine br_t pp_77 (nm_r (nI_1 i) ?_)
    have h1 := IH (i + 1) (by omega)
    rw [show (i + 1) * 7 = i * 7 + (6 + 1) from by omega] at h1
    exact h1
theorem ys_pop {n b k : Nat} (hb : b ≤ 105) (hk : k < 7) (h : wY_popHead_7 post P (nI b) C T F K n (nI (k + 1)) nf op w q mg (upd ou k (w (b + k))) rp ca sg) : wY_popHead_7 post P (nI b) C T F K (n + 1) (nI k) nf op w q mg ou rp ca sg := by
  refine br_f (pp_g7 hk) ?_
  rw [pp_bk hb hk, nI_clamp (n := k) (by omega)]
  exact ⟨pp_vbk hb hk, vp_in_nI hk (by decide), nm_e (nm_r (nI_1 k) h)⟩
theorem ya_pop (HP : pn_P P p) {s : Nat} (hs : q p = nI (s + 1)) (hs8 : s + 1 ≤ 8) (h : post (C, T, F, K, nf, op, pn_sh w (p * 56) (s * 7), upd q p (nI s), mg, pn_l7 ou (fun f => w (p * 56 + f)), rp, ca, sg)) : wpY_popHead post (C, T, F, K, nf, op, w, q, mg, ou, rp, ca, sg) P := by
  have hp := pp_lt HP
  have hb : p * 56 ≤ 105 := by omega
  unfold wpY_popHead
  intro x2 e2
  rw [pp_y0 HP] at e2
  subst e2
  refine ⟨8, ys_pop hb (k := 0) (by decide) (ys_pop hb (k := 1) (by decide) (ys_pop hb (k := 2) (by decide) (ys_pop hb (k := 3) (by decide) (ys_pop hb (k := 4) (by decide) (ys_pop hb (k := 5) (by decide) (ys_pop hb (k := 6) (by decide) (br_t pp_77 ⟨s + 1, ?_⟩)))))))⟩
  have h0 := ys_pout HP (b := p * 56) (by omega) hs hs8 h s 0 (by omega)
  rw [Nat.zero_mul, pn_sh0] at h0
  exact h0
theorem ys_adopt (HP : pn_P P p) {n k : Nat} {M wa0 ic0 : Nat → Int32} (hM : ∀ f, f < 7 → mg f = M f) (hc4 : M 0 = 3 ∨ M 0 = 4) (hk : k < 4) (hw : wa (p * 4 + k) = wa0 (p * 4 + k)) (hc1 : ic (p * 4 + k) = ic0 (p * 4 + k)) (h : wY_adopt_2 post P C T F K n (nI (k + 1)) (pn_I st rs ti ni cr hc nk ms ei us dn sa fi) (pn_O lo hi (upd wa (p * 4 + k) (pn_aW (M 0) M lo hi wa0 p k)) (upd ic (p * 4 + k) (pn_aI (M 0) M ic0 p k)) se lc rm) w q mg ou rp ca sg) : wY_adopt_2 post P C T F K (n + 1) (nI k) (pn_I st rs ti ni cr hc nk ms ei us dn sa fi) (pn_O lo hi wa ic se lc rm) w q mg ou rp ca sg := by
  refine br_f (pp_g4 hk) ?_
  rw [pp_3 hk, hM (3 + k) (by omega), hM 0 (by decide)]
  refine ⟨pp_v3 hk, nm_e ?_⟩
  intro x3 e3
  have o0 : (x3).toNatClampNeg = (p * 4 + k) * 7 + 0 := by rw [e3]; exact pp_o0 HP hk
  have v0 : vp_in (x3) 56 := by rw [e3]; exact pp_vo0 HP hk
  have o1 : (x3 + 1).toNatClampNeg = (p * 4 + k) * 7 + 1 := by rw [e3]; exact pp_o1 HP hk
  have v1 : vp_in (x3 + 1) 56 := by rw [e3]; exact pp_vo1 HP hk
  have o2 : (x3 + 2).toNatClampNeg = (p * 4 + k) * 7 + 2 := by rw [e3]; exact pp_o2 HP hk
  have v2 : vp_in (x3 + 2) 56 := by rw [e3]; exact pp_vo2 HP hk
  have o3 : (x3 + 3).toNatClampNeg = (p * 4 + k) * 7 + 3 := by rw [e3]; exact pp_o3 HP hk
  have v3 : vp_in (x3 + 3) 56 := by rw [e3]; exact pp_vo3 HP hk
  unfold wY_adopt_96 wY_adopt_97
  rw [o0, o1, o2, o3, hM 0 (by decide), pn_O_a0, pn_O_a1]
  by_cases hn : M (3 + k) = -1
  · rw [show pn_aW (M 0) M lo hi wa0 p k = wa0 (p * 4 + k) from if_pos hn, show pn_aI (M 0) M ic0 p k = ic0 (p * 4 + k) from if_pos hn, pn_self wa _ _ hw, pn_self ic _ _ hc1] at h
    exact br_t hn (br_t hn (nm_r (nI_1 k) h))
  · refine br_f hn ?_
    rcases hc4 with h3 | h3
    · have n4 : ¬ M 0 = 4 := by rw [h3]; decide
      rw [show pn_aW (M 0) M lo hi wa0 p k = pn_cl (M (3 + k)) (lo (p * 4 + k)) (hi (p * 4 + k)) from (if_neg hn).trans (if_pos h3), show pn_aI (M 0) M ic0 p k = ic0 (p * 4 + k) from (if_neg hn).trans (if_pos h3), pn_self ic _ _ hc1] at h
      refine br_t h3 ⟨v0, ?_⟩
      rw [pn_O_u2, pn_O_u2, pn_O_u2]
      by_cases c1 : lo (p * 4 + k) ≤ M (3 + k)
      · refine br_t c1 ⟨v1, ?_⟩
        by_cases c2 : M (3 + k) ≤ hi (p * 4 + k)
        · rw [show pn_cl (M (3 + k)) (lo (p * 4 + k)) (hi (p * 4 + k)) = M (3 + k) from (if_pos c1).trans (if_pos c2)] at h
          exact br_t c2 ⟨v2, nm_e (br_f hn (br_f n4 (nm_r (nI_1 k) h)))⟩
        · rw [show pn_cl (M (3 + k)) (lo (p * 4 + k)) (hi (p * 4 + k)) = hi (p * 4 + k) from (if_pos c1).trans (if_neg c2)] at h
          exact br_f c2 ⟨v1, v2, nm_e (br_f hn (br_f n4 (nm_r (nI_1 k) h)))⟩
      · rw [show pn_cl (M (3 + k)) (lo (p * 4 + k)) (hi (p * 4 + k)) = lo (p * 4 + k) from if_neg c1] at h
        exact br_f c1 ⟨v0, v2, nm_e (br_f hn (br_f n4 (nm_r (nI_1 k) h)))⟩
    · have n3 : ¬ M 0 = 3 := by rw [h3]; decide
      rw [show pn_aW (M 0) M lo hi wa0 p k = wa0 (p * 4 + k) from (if_neg hn).trans (if_neg n3), show pn_aI (M 0) M ic0 p k = 0 from (if_neg hn).trans (if_neg n3), pn_self wa _ _ hw] at h
      refine br_f n3 (br_f hn (br_t h3 ⟨v3, ?_⟩))
      rw [pn_O_u3]
      exact nm_e (nm_r (nI_1 k) h)
theorem ya_adopt (HP : pn_P P p) {M : Nat → Int32} (hM : ∀ f, f < 7 → mg f = M f) (hc4 : M 0 = 3 ∨ M 0 = 4) (h : post (C, T, F, K, pn_I st rs ti ni cr hc nk ms ei us dn sa fi, pn_O lo hi (pn_4 wa (p * 4) (pn_aW (M 0) M lo hi wa p)) (pn_4 ic (p * 4) (pn_aI (M 0) M ic p)) se lc rm, w, q, mg, ou, rp, ca, sg)) : wpY_adopt post (C, T, F, K, pn_I st rs ti ni cr hc nk ms ei us dn sa fi, pn_O lo hi wa ic se lc rm, w, q, mg, ou, rp, ca, sg) P := by
  unfold wpY_adopt
  refine ⟨5, ys_adopt HP (k := 0) (wa0 := wa) (ic0 := ic) hM hc4 (by decide) ?_ ?_ (ys_adopt HP (k := 1) (wa0 := wa) (ic0 := ic) hM hc4 (by decide) ?_ ?_ (ys_adopt HP (k := 2) (wa0 := wa) (ic0 := ic) hM hc4 (by decide) ?_ ?_ (ys_adopt HP (k := 3) (wa0 := wa) (ic0 := ic) hM hc4 (by decide) ?_ ?_ (br_t pp_44 h))))⟩
  all_goals first | rfl | (repeat rw [pn_ne _ _ (by omega)])
end PY
