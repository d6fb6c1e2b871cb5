def i_Rel (_ : Nat) (u : SX) (v : SY) : Prop := ∃ (C T F K rc : Int32) (st rs ti ni cr hc nk ms ei us dn sa fi lo hi wa ic se lc rm w q ih vd ro no mg ou rp ca sg : Nat → Int32), u = (C, T, F, K, rc, st, rs, ti, ni, cr, hc, nk, ms, ei, us, dn, sa, fi, lo, hi, wa, ic, se, lc, rm, w, q, ih, vd, ro, no) ∧ v = (C, T, F, K, pn_I st rs ti ni cr hc nk ms ei us dn sa fi, pn_O lo hi wa ic se lc rm, w, q, mg, ou, rp, ca, sg) ∧ pn_V st ti lo hi ic q no
theorem i_up {k : Nat} {u : SX} {v : SY} (h : i_Rel k u v) : i_Rel (k + 5) u v := h
section PR
variable {C T F K rc : Int32} {st rs ti ni cr hc nk ms ei us dn sa fi lo hi wa ic se lc rm w q ih vd ro no mg ou rp ca sg : Nat → Int32} {P : Int32} {p : Nat}
theorem pr_mk {k : Nat} (V : pn_V st ti lo hi ic q no) : i_Rel k (C, T, F, K, rc, st, rs, ti, ni, cr, hc, nk, ms, ei, us, dn, sa, fi, lo, hi, wa, ic, se, lc, rm, w, q, ih, vd, ro, no) (C, T, F, K, pn_I st rs ti ni cr hc nk ms ei us dn sa fi, pn_O lo hi wa ic se lc rm, w, q, mg, ou, rp, ca, sg) := ⟨_, _, _, _, _, _, _, _, _, _, _, _, _, _, _, _, _, _, _, _, _, _, _, _, _, _, _, _, _, _, _, _, _, _, _, _, rfl, rfl, V⟩
end PR
def pn_H (post : SX → Prop) (p : Nat) (ih mg : Nat → Int32) (WY : (SY → Prop) → Prop) : Prop := ∀ (C T F K rc : Int32) (st rs ti ni cr hc nk ms ei us dn sa fi lo hi wa ic se lc rm w q vd ro no : Nat → Int32), pn_V st (pn_tj st ti p) lo hi ic q no → (∀ Q : SY → Prop, (∀ ou rp ca sg : Nat → Int32, Q (C, T, F, K, pn_I st rs (pn_tj st ti p) ni cr hc nk ms ei us dn sa fi, pn_O lo hi wa ic se lc rm, w, q, mg, ou, rp, ca, sg)) → WY Q) → post (C, T, F, K, rc, st, rs, ti, ni, cr, hc, nk, ms, ei, us, dn, sa, fi, lo, hi, wa, ic, se, lc, rm, w, q, ih, vd, ro, no)
section EV
variable {C T F K rc : Int32} {st rs ti ni cr hc nk ms ei us dn sa fi lo hi wa ic se lc rm w q ih vd ro no mg ou rp ca sg : Nat → Int32} {P : Int32} {p : Nat}
variable {post : SX → Prop} {M : Nat → Int32}
theorem ev_open (HP : pn_P P p) (V : pn_V st ti lo hi ic q no) (H : pn_H post p ih mg (fun Q => wpY_evOpen Q (C, T, F, K, pn_I st rs ti ni cr hc nk ms ei us dn sa fi, pn_O lo hi wa ic se lc rm, w, q, mg, ou, rp, ca, sg) P)) : wpX_onOpen post (C, T, F, K, rc, st, rs, ti, ni, cr, hc, nk, ms, ei, us, dn, sa, fi, lo, hi, wa, ic, se, lc, rm, w, q, ih, vd, ro, no) P := by
  obtain ⟨VS, VO, VQ, VN⟩ := V
  have hp := pp_lt HP
  have pv := pp_v HP
  obtain ⟨s, hs9, es, ht⟩ := VS p hp
  obtain ⟨z, hz8, ez⟩ := VQ p hp
  obtain ⟨z2, hz82, ez2⟩ := (pn_VQ_a VQ hp) p hp
  unfold wpX_onOpen
  refine ⟨pv, ?_⟩
  rw [pp_n HP]
  have hcase : s = 0 ∨ s = 1 ∨ s = 2 ∨ s = 3 ∨ s = 4 ∨ s = 5 ∨ s = 6 ∨ s = 7 ∨ s = 8 ∨ s = 9 := by omega
  rcases hcase with rfl | rfl | rfl | rfl | rfl | rfl | rfl | rfl | rfl | rfl
  · have e : st p = 0 := es
    rw [e]
    refine (nm_e (br_f (by decide) (br_f (by decide) (br_t (by decide) ⟨pv, ⟨pv, (nm_e ⟨pv, (nm_e ?_)⟩)⟩⟩))))
    have tj : ∀ t : Nat → Int32, pn_tj (upd st p 1) t p = upd t p 0 := fun t => pn_tj_off (by rw [pn_at]; decide)
    refine H _ _ _ _ _ _ _ _ _ _ _ _ _ _ _ _ _ _ _ _ _ _ _ _ _ _ _ _ _ _ ?_ (fun Q hQ => ?_)
    · rw [tj]; exact ⟨(pn_VS_u (n := 1) VS rfl (by decide) (fun j ej => by first | rfl | (rw [pn_ne _ _ ej]) | (rw [pn_ne _ _ ej, pn_ne _ _ ej])) (fun _ => pn_at _ _ _)), VO, VQ, VN⟩
    rw [tj] at hQ
    unfold wpY_evOpen
    refine ya_st HP ?_
    rw [e]
    refine (br_t (by decide) (ya_tls HP (br_f (by decide) (br_f (by decide) ?_))))
    unfold wY_evOpen_49
    exact (ya_fin0 HP (by decide) (hQ _ _ _ _))
  · have e : st p = 1 := es
    rw [e]
    refine (nm_e (br_f (by decide) (br_f (by decide) (br_f (by decide) (br_t (by decide) ?_)))))
    have tj : ∀ t : Nat → Int32, pn_tj st t p = upd t p 0 := fun t => pn_tj_off (by rw [e]; decide)
    refine H _ _ _ _ _ _ _ _ _ _ _ _ _ _ _ _ _ _ _ _ _ _ _ _ _ _ _ _ _ _ ?_ (fun Q hQ => ?_)
    · rw [tj]; exact ⟨(pn_VS_k (n := 1) VS hp es (by decide) (fun j ej => by first | rfl | (rw [pn_ne _ _ ej]) | (rw [pn_ne _ _ ej, pn_ne _ _ ej])) (fun _ => pn_at _ _ _)), VO, VQ, VN⟩
    rw [tj] at hQ
    unfold wpY_evOpen
    refine ya_st HP ?_
    rw [e]
    refine (br_f (by decide) (br_f (by decide) (br_f (by decide) ?_)))
    unfold wY_evOpen_49
    exact (ya_fins0 HP e (by decide) (hQ _ _ _ _))
  · have e : st p = 2 := es
    rw [e]
    refine (nm_e (br_f (by decide) (br_f (by decide) (br_f (by decide) (br_f (by decide) (br_t (by decide) (xa_breq HP ez hz8 ?_)))))))
    have tj : ∀ t : Nat → Int32, pn_tj (upd st p 6) t p = t := fun t => pn_tj_on (by rw [pn_at]; decide) (by rw [pn_at]; decide)
    refine H _ _ _ _ _ _ _ _ _ _ _ _ _ _ _ _ _ _ _ _ _ _ _ _ _ _ _ _ _ _ ?_ (fun Q hQ => ?_)
    · rw [tj]; exact ⟨(pn_VS_u (n := 6) VS rfl (by decide) (fun j ej => by first | rfl | (rw [pn_ne _ _ ej]) | (rw [pn_ne _ _ ej, pn_ne _ _ ej])) (fun z => absurd z (by decide))), (pn_VO_in VO), (pn_VQ_a VQ hp), VN⟩
    rw [tj] at hQ
    unfold wpY_evOpen
    refine ya_st HP ?_
    rw [e]
    refine (br_f (by decide) (br_t (by decide) (ya_start HP (ya_ircC HP (ya_scr HP (pn_VO_in VO) ez hz8 (fun _ => (br_f (by decide) ?_)))))))
    unfold wY_evOpen_49
    exact (ya_fin1 HP (by decide) (by decide) (hQ _ _ _ _))
  · have e : st p = 3 := es
    rw [e]
    refine (nm_e (br_f (by decide) (br_f (by decide) (br_f (by decide) (br_f (by decide) (br_f (by decide) (br_t (by decide) ?_)))))))
    have tj : ∀ t : Nat → Int32, pn_tj st t p = upd t p 0 := fun t => pn_tj_off (by rw [e]; decide)
    refine H _ _ _ _ _ _ _ _ _ _ _ _ _ _ _ _ _ _ _ _ _ _ _ _ _ _ _ _ _ _ ?_ (fun Q hQ => ?_)
    · rw [tj]; exact ⟨(pn_VS_k (n := 3) VS hp es (by decide) (fun j ej => by first | rfl | (rw [pn_ne _ _ ej]) | (rw [pn_ne _ _ ej, pn_ne _ _ ej])) (fun _ => pn_at _ _ _)), VO, VQ, VN⟩
    rw [tj] at hQ
    unfold wpY_evOpen
    refine ya_st HP ?_
    rw [e]
    refine (br_f (by decide) (br_f (by decide) (br_f (by decide) ?_)))
    unfold wY_evOpen_49
    exact (ya_fins0 HP e (by decide) (hQ _ _ _ _))
  · have e : st p = 4 := es
    rw [e]
    refine (nm_e (br_f (by decide) (br_f (by decide) (br_f (by decide) (br_f (by decide) (br_f (by decide) (br_f (by decide) (br_t (by decide) ⟨pv, (nm_e ?_)⟩))))))))
    have tj : ∀ t : Nat → Int32, pn_tj (upd st p 5) t p = t := fun t => pn_tj_on (by rw [pn_at]; decide) (by rw [pn_at]; decide)
    refine H _ _ _ _ _ _ _ _ _ _ _ _ _ _ _ _ _ _ _ _ _ _ _ _ _ _ _ _ _ _ ?_ (fun Q hQ => ?_)
    · rw [tj]; exact ⟨(pn_VS_u (n := 5) VS rfl (by decide) (fun j ej => by first | rfl | (rw [pn_ne _ _ ej]) | (rw [pn_ne _ _ ej, pn_ne _ _ ej])) (fun z => absurd z (by decide))), VO, VQ, VN⟩
    rw [tj] at hQ
    unfold wpY_evOpen
    refine ya_st HP ?_
    rw [e]
    refine (br_f (by decide) (br_f (by decide) (br_t (by decide) ?_)))
    unfold wY_evOpen_49
    exact (ya_fin1 HP (by decide) (by decide) (hQ _ _ _ _))
  · have e : st p = 5 := es
    rw [e]
    refine (nm_e (br_f (by decide) (br_t (by decide) ?_)))
    have tj : ∀ t : Nat → Int32, pn_tj st t p = t := fun t => pn_tj_on (by rw [e]; decide) (by rw [e]; decide)
    refine H _ _ _ _ _ _ _ _ _ _ _ _ _ _ _ _ _ _ _ _ _ _ _ _ _ _ _ _ _ _ ?_ (fun Q hQ => ?_)
    · rw [tj]; exact ⟨(pn_VS_k (n := 5) VS hp es (by decide) (fun j ej => by first | rfl | (rw [pn_ne _ _ ej]) | (rw [pn_ne _ _ ej, pn_ne _ _ ej])) (fun z => absurd z (by decide))), VO, VQ, VN⟩
    rw [tj] at hQ
    unfold wpY_evOpen
    refine ya_st HP ?_
    rw [e]
    refine (br_f (by decide) (br_f (by decide) (br_f (by decide) ?_)))
    unfold wY_evOpen_49
    exact (ya_fins1 HP e (by decide) (by decide) (hQ _ _ _ _))
  · have e : st p = 6 := es
    rw [e]
    refine (nm_e (br_f (by decide) (br_t (by decide) ?_)))
    have tj : ∀ t : Nat → Int32, pn_tj st t p = t := fun t => pn_tj_on (by rw [e]; decide) (by rw [e]; decide)
    refine H _ _ _ _ _ _ _ _ _ _ _ _ _ _ _ _ _ _ _ _ _ _ _ _ _ _ _ _ _ _ ?_ (fun Q hQ => ?_)
    · rw [tj]; exact ⟨(pn_VS_k (n := 6) VS hp es (by decide) (fun j ej => by first | rfl | (rw [pn_ne _ _ ej]) | (rw [pn_ne _ _ ej, pn_ne _ _ ej])) (fun z => absurd z (by decide))), VO, VQ, VN⟩
    rw [tj] at hQ
    unfold wpY_evOpen
    refine ya_st HP ?_
    rw [e]
    refine (br_f (by decide) (br_f (by decide) (br_f (by decide) ?_)))
    unfold wY_evOpen_49
    exact (ya_fins1 HP e (by decide) (by decide) (hQ _ _ _ _))
  · have e : st p = 7 := es
    rw [e]
    refine (nm_e (br_f (by decide) (br_t (by decide) ?_)))
    have tj : ∀ t : Nat → Int32, pn_tj st t p = t := fun t => pn_tj_on (by rw [e]; decide) (by rw [e]; decide)
    refine H _ _ _ _ _ _ _ _ _ _ _ _ _ _ _ _ _ _ _ _ _ _ _ _ _ _ _ _ _ _ ?_ (fun Q hQ => ?_)
    · rw [tj]; exact ⟨(pn_VS_k (n := 7) VS hp es (by decide) (fun j ej => by first | rfl | (rw [pn_ne _ _ ej]) | (rw [pn_ne _ _ ej, pn_ne _ _ ej])) (fun z => absurd z (by decide))), VO, VQ, VN⟩
    rw [tj] at hQ
    unfold wpY_evOpen
    refine ya_st HP ?_
    rw [e]
    refine (br_f (by decide) (br_f (by decide) (br_f (by decide) ?_)))
    unfold wY_evOpen_49
    exact (ya_fins1 HP e (by decide) (by decide) (hQ _ _ _ _))
  · have e : st p = 8 := es
    rw [e]
    refine (nm_e (br_f (by decide) (br_t (by decide) ?_)))
    have tj : ∀ t : Nat → Int32, pn_tj st t p = t := fun t => pn_tj_on (by rw [e]; decide) (by rw [e]; decide)
    refine H _ _ _ _ _ _ _ _ _ _ _ _ _ _ _ _ _ _ _ _ _ _ _ _ _ _ _ _ _ _ ?_ (fun Q hQ => ?_)
    · rw [tj]; exact ⟨(pn_VS_k (n := 8) VS hp es (by decide) (fun j ej => by first | rfl | (rw [pn_ne _ _ ej]) | (rw [pn_ne _ _ ej, pn_ne _ _ ej])) (fun z => absurd z (by decide))), VO, VQ, VN⟩
    rw [tj] at hQ
    unfold wpY_evOpen
    refine ya_st HP ?_
    rw [e]
    refine (br_f (by decide) (br_f (by decide) (br_f (by decide) ?_)))
    unfold wY_evOpen_49
    exact (ya_fins1 HP e (by decide) (by decide) (hQ _ _ _ _))
  · have e : st p = 9 := es
    rw [e]
    refine (nm_e (br_f (by decide) (br_t (by decide) ?_)))
    have tj : ∀ t : Nat → Int32, pn_tj st t p = upd t p 0 := fun t => pn_tj_off (by rw [e]; decide)
    refine H _ _ _ _ _ _ _ _ _ _ _ _ _ _ _ _ _ _ _ _ _ _ _ _ _ _ _ _ _ _ ?_ (fun Q hQ => ?_)
    · rw [tj]; exact ⟨(pn_VS_k (n := 9) VS hp es (by decide) (fun j ej => by first | rfl | (rw [pn_ne _ _ ej]) | (rw [pn_ne _ _ ej, pn_ne _ _ ej])) (fun _ => pn_at _ _ _)), VO, VQ, VN⟩
    rw [tj] at hQ
    unfold wpY_evOpen
    refine ya_st HP ?_
    rw [e]
    refine (br_f (by decide) (br_f (by decide) (br_f (by decide) ?_)))
    unfold wY_evOpen_49
    exact (ya_fins0 HP e (by decide) (hQ _ _ _ _))
theorem ev_close (HP : pn_P P p) (V : pn_V st ti lo hi ic q no) (H : pn_H post p ih mg (fun Q => wpY_evClose Q (C, T, F, K, pn_I st rs ti ni cr hc nk ms ei us dn sa fi, pn_O lo hi wa ic se lc rm, w, q, mg, ou, rp, ca, sg) P)) : wpX_onClose post (C, T, F, K, rc, st, rs, ti, ni, cr, hc, nk, ms, ei, us, dn, sa, fi, lo, hi, wa, ic, se, lc, rm, w, q, ih, vd, ro, no) P := by
  obtain ⟨VS, VO, VQ, VN⟩ := V
  have hp := pp_lt HP
  have pv := pp_v HP
  obtain ⟨s, hs9, es, ht⟩ := VS p hp
  obtain ⟨z, hz8, ez⟩ := VQ p hp
  obtain ⟨z2, hz82, ez2⟩ := (pn_VQ_a VQ hp) p hp
  unfold wpX_onClose wX_onClose_96
  refine ⟨pv, ?_⟩
  rw [pp_n HP]
  have hcase : s = 0 ∨ s = 1 ∨ s = 2 ∨ s = 3 ∨ s = 4 ∨ s = 5 ∨ s = 6 ∨ s = 7 ∨ s = 8 ∨ s = 9 := by omega
  rcases hcase with rfl | rfl | rfl | rfl | rfl | rfl | rfl | rfl | rfl | rfl
  · have e : st p = 0 := es
    rw [e]
    refine (nm_e (br_t (by decide) ?_))
    have tj : ∀ t : Nat → Int32, pn_tj st t p = upd t p 0 := fun t => pn_tj_off (by rw [e]; decide)
    refine H _ _ _ _ _ _ _ _ _ _ _ _ _ _ _ _ _ _ _ _ _ _ _ _ _ _ _ _ _ _ ?_ (fun Q hQ => ?_)
    · rw [tj]; exact ⟨(pn_VS_k (n := 0) VS hp es (by decide) (fun j ej => by first | rfl | (rw [pn_ne _ _ ej]) | (rw [pn_ne _ _ ej, pn_ne _ _ ej])) (fun _ => pn_at _ _ _)), VO, VQ, VN⟩
    rw [tj] at hQ
    unfold wpY_evClose
    refine ya_st HP ?_
    rw [e]
    refine (br_f (by decide) (br_f (by decide) (br_f (by decide) (br_f (by decide) (br_t (by decide) ?_)))))
    unfold wY_evClose_63
    exact (ya_fins0 HP e (by decide) (hQ _ _ _ _))
  · have e : st p = 1 := es
    rw [e]
    refine (nm_e (br_f (by decide) (br_f (by decide) (br_t (by decide) ⟨pv, ⟨pv, (nm_e ⟨pv, (nm_e ?_)⟩)⟩⟩))))
    have tj : ∀ t : Nat → Int32, pn_tj (upd st p 0) t p = upd t p 0 := fun t => pn_tj_off (by rw [pn_at]; decide)
    refine H _ _ _ _ _ _ _ _ _ _ _ _ _ _ _ _ _ _ _ _ _ _ _ _ _ _ _ _ _ _ ?_ (fun Q hQ => ?_)
    · rw [tj]; exact ⟨(pn_VS_u (n := 0) VS rfl (by decide) (fun j ej => by first | rfl | (rw [pn_ne _ _ ej]) | (rw [pn_ne _ _ ej, pn_ne _ _ ej])) (fun _ => pn_at _ _ _)), VO, VQ, VN⟩
    rw [tj] at hQ
    unfold wpY_evClose
    refine ya_st HP ?_
    rw [e]
    refine (br_t (by decide) (ya_tlf HP (br_f (by decide) (br_f (by decide) (br_f (by decide) (br_t (by decide) ?_))))))
    unfold wY_evClose_63
    exact (ya_fin0 HP (by decide) (hQ _ _ _ _))
  · have e : st p = 2 := es
    rw [e]
    refine (nm_e (br_f (by decide) (br_f (by decide) (br_f (by decide) (br_t (by decide) ?_)))))
    have tj : ∀ t : Nat → Int32, pn_tj st t p = upd t p 0 := fun t => pn_tj_off (by rw [e]; decide)
    refine H _ _ _ _ _ _ _ _ _ _ _ _ _ _ _ _ _ _ _ _ _ _ _ _ _ _ _ _ _ _ ?_ (fun Q hQ => ?_)
    · rw [tj]; exact ⟨(pn_VS_k (n := 2) VS hp es (by decide) (fun j ej => by first | rfl | (rw [pn_ne _ _ ej]) | (rw [pn_ne _ _ ej, pn_ne _ _ ej])) (fun _ => pn_at _ _ _)), VO, VQ, VN⟩
    rw [tj] at hQ
    unfold wpY_evClose
    refine ya_st HP ?_
    rw [e]
    refine (br_f (by decide) (br_f (by decide) (br_f (by decide) (br_f (by decide) (br_t (by decide) ?_)))))
    unfold wY_evClose_63
    exact (ya_fins0 HP e (by decide) (hQ _ _ _ _))
  · have e : st p = 3 := es
    rw [e]
    refine (nm_e (br_f (by decide) (br_f (by decide) (br_f (by decide) (br_f (by decide) (br_t (by decide) ⟨pv, (nm_e ?_)⟩))))))
    have tj : ∀ t : Nat → Int32, pn_tj (upd st p 2) t p = upd t p 0 := fun t => pn_tj_off (by rw [pn_at]; decide)
    refine H _ _ _ _ _ _ _ _ _ _ _ _ _ _ _ _ _ _ _ _ _ _ _ _ _ _ _ _ _ _ ?_ (fun Q hQ => ?_)
    · rw [tj]; exact ⟨(pn_VS_u (n := 2) VS rfl (by decide) (fun j ej => by first | rfl | (rw [pn_ne _ _ ej]) | (rw [pn_ne _ _ ej, pn_ne _ _ ej])) (fun _ => pn_at _ _ _)), VO, VQ, VN⟩
    rw [tj] at hQ
    unfold wpY_evClose
    refine ya_st HP ?_
    rw [e]
    refine (br_f (by decide) (br_t (by decide) (br_f (by decide) (br_f (by decide) (br_t (by decide) ?_)))))
    unfold wY_evClose_63
    exact (ya_fin0 HP (by decide) (hQ _ _ _ _))
  · have e : st p = 4 := es
    rw [e]
    refine (nm_e (br_f (by decide) (br_f (by decide) (br_f (by decide) (br_f (by decide) (br_f (by decide) (br_t (by decide) ?_)))))))
    have tj : ∀ t : Nat → Int32, pn_tj st t p = t := fun t => pn_tj_on (by rw [e]; decide) (by rw [e]; decide)
    refine H _ _ _ _ _ _ _ _ _ _ _ _ _ _ _ _ _ _ _ _ _ _ _ _ _ _ _ _ _ _ ?_ (fun Q hQ => ?_)
    · rw [tj]; exact ⟨(pn_VS_k (n := 4) VS hp es (by decide) (fun j ej => by first | rfl | (rw [pn_ne _ _ ej]) | (rw [pn_ne _ _ ej, pn_ne _ _ ej])) (fun z => absurd z (by decide))), VO, VQ, VN⟩
    rw [tj] at hQ
    unfold wpY_evClose
    refine ya_st HP ?_
    rw [e]
    refine (br_f (by decide) (br_f (by decide) (br_f (by decide) (br_f (by decide) (br_t (by decide) ?_)))))
    unfold wY_evClose_63
    exact (ya_fins1 HP e (by decide) (by decide) (hQ _ _ _ _))
  · have e : st p = 5 := es
    rw [e]
    refine (nm_e (br_f (by decide) (br_f (by decide) (br_f (by decide) (br_f (by decide) (br_f (by decide) (br_f (by decide) (br_t (by decide) ⟨pv, (nm_e ?_)⟩))))))))
    have tj : ∀ t : Nat → Int32, pn_tj (upd st p 4) t p = t := fun t => pn_tj_on (by rw [pn_at]; decide) (by rw [pn_at]; decide)
    refine H _ _ _ _ _ _ _ _ _ _ _ _ _ _ _ _ _ _ _ _ _ _ _ _ _ _ _ _ _ _ ?_ (fun Q hQ => ?_)
    · rw [tj]; exact ⟨(pn_VS_u (n := 4) VS rfl (by decide) (fun j ej => by first | rfl | (rw [pn_ne _ _ ej]) | (rw [pn_ne _ _ ej, pn_ne _ _ ej])) (fun z => absurd z (by decide))), VO, VQ, VN⟩
    rw [tj] at hQ
    unfold wpY_evClose
    refine ya_st HP ?_
    rw [e]
    refine (br_f (by decide) (br_f (by decide) (br_t (by decide) (br_f (by decide) (br_t (by decide) ?_)))))
    unfold wY_evClose_63
    exact (ya_fin1 HP (by decide) (by decide) (hQ _ _ _ _))
  · have e : st p = 6 := es
    rw [e]
    refine (nm_e (br_f (by decide) (br_f (by decide) (br_f (by decide) (br_f (by decide) (br_f (by decide) (br_f (by decide) (br_f (by decide) (br_t (by decide) (xa_bterm HP VN ez hz8 ?_))))))))))
    have tj : ∀ t : Nat → Int32, pn_tj (upd st p 4) t p = t := fun t => pn_tj_on (by rw [pn_at]; decide) (by rw [pn_at]; decide)
    refine H _ _ _ _ _ _ _ _ _ _ _ _ _ _ _ _ _ _ _ _ _ _ _ _ _ _ _ _ _ _ ?_ (fun Q hQ => ?_)
    · rw [tj]; exact ⟨(pn_VS_u (n := 4) VS rfl (by decide) (fun j ej => by first | rfl | (rw [pn_ne _ _ ej]) | (rw [pn_ne _ _ ej, pn_ne _ _ ej])) (fun z => absurd z (by decide))), VO, (pn_VQ_a VQ hp), VN⟩
    rw [tj] at hQ
    unfold wpY_evClose
    refine ya_st HP ?_
    rw [e]
    refine (br_f (by decide) (br_f (by decide) (br_f (by decide) (br_f (by decide) (br_f (by decide) (ya_ircT HP (ya_str HP ez hz8 (fun _ => ?_))))))))
    unfold wY_evClose_63
    exact (ya_fin1 HP (by decide) (by decide) (hQ _ _ _ _))
  · have e : st p = 7 := es
    rw [e]
    refine (nm_e (br_f (by decide) (br_f (by decide) (br_f (by decide) (br_f (by decide) (br_f (by decide) (br_f (by decide) (br_f (by decide) (br_f (by decide) (br_t (by decide) (xa_bterm HP VN ez hz8 ?_)))))))))))
    have tj : ∀ t : Nat → Int32, pn_tj (upd st p 4) t p = t := fun t => pn_tj_on (by rw [pn_at]; decide) (by rw [pn_at]; decide)
    refine H _ _ _ _ _ _ _ _ _ _ _ _ _ _ _ _ _ _ _ _ _ _ _ _ _ _ _ _ _ _ ?_ (fun Q hQ => ?_)
    · rw [tj]; exact ⟨(pn_VS_u (n := 4) VS rfl (by decide) (fun j ej => by first | rfl | (rw [pn_ne _ _ ej]) | (rw [pn_ne _ _ ej, pn_ne _ _ ej])) (fun z => absurd z (by decide))), VO, (pn_VQ_a VQ hp), VN⟩
    rw [tj] at hQ
    unfold wpY_evClose
    refine ya_st HP ?_
    rw [e]
    refine (br_f (by decide) (br_f (by decide) (br_f (by decide) (br_f (by decide) (br_f (by decide) (ya_ircT HP (ya_str HP ez hz8 (fun _ => ?_))))))))
    unfold wY_evClose_63
    exact (ya_fin1 HP (by decide) (by decide) (hQ _ _ _ _))
  · have e : st p = 8 := es
    rw [e]
    refine (nm_e (br_f (by decide) (br_f (by decide) (br_f (by decide) (br_f (by decide) (br_f (by decide) (br_f (by decide) (br_f (by decide) (br_f (by decide) (br_f (by decide) (br_t (by decide) (xa_bterm HP VN ez hz8 ?_))))))))))))
    have tj : ∀ t : Nat → Int32, pn_tj (upd st p 4) t p = t := fun t => pn_tj_on (by rw [pn_at]; decide) (by rw [pn_at]; decide)
    refine H _ _ _ _ _ _ _ _ _ _ _ _ _ _ _ _ _ _ _ _ _ _ _ _ _ _ _ _ _ _ ?_ (fun Q hQ => ?_)
    · rw [tj]; exact ⟨(pn_VS_u (n := 4) VS rfl (by decide) (fun j ej => by first | rfl | (rw [pn_ne _ _ ej]) | (rw [pn_ne _ _ ej, pn_ne _ _ ej])) (fun z => absurd z (by decide))), VO, (pn_VQ_a VQ hp), VN⟩
    rw [tj] at hQ
    unfold wpY_evClose
    refine ya_st HP ?_
    rw [e]
    refine (br_f (by decide) (br_f (by decide) (br_f (by decide) (br_f (by decide) (br_f (by decide) (ya_ircT HP (ya_str HP ez hz8 (fun _ => ?_))))))))
    unfold wY_evClose_63
    exact (ya_fin1 HP (by decide) (by decide) (hQ _ _ _ _))
  · have e : st p = 9 := es
    rw [e]
    refine (nm_e (br_f (by decide) (br_f (by decide) (br_f (by decide) (br_f (by decide) (br_f (by decide) (br_f (by decide) (br_f (by decide) (br_f (by decide) (br_f (by decide) (br_f (by decide) (br_t (by decide) ⟨pv, ⟨pv, (nm_e (xa_bterm HP VN ez hz8 ?_))⟩⟩))))))))))))
    have tj : ∀ t : Nat → Int32, pn_tj (upd st p 4) t p = t := fun t => pn_tj_on (by rw [pn_at]; decide) (by rw [pn_at]; decide)
    refine H _ _ _ _ _ _ _ _ _ _ _ _ _ _ _ _ _ _ _ _ _ _ _ _ _ _ _ _ _ _ ?_ (fun Q hQ => ?_)
    · rw [tj]; exact ⟨(pn_VS_u (n := 4) VS rfl (by decide) (fun j ej => by first | rfl | (rw [pn_ne _ _ ej]) | (rw [pn_ne _ _ ej, pn_ne _ _ ej])) (fun z => absurd z (by decide))), VO, (pn_VQ_a VQ hp), VN⟩
    rw [tj] at hQ
    unfold wpY_evClose
    refine ya_st HP ?_
    rw [e]
    refine (br_f (by decide) (br_f (by decide) (br_f (by decide) (br_t (by decide) (ya_tld HP (br_f (by decide) (ya_ircT HP (ya_str HP ez hz8 (fun _ => ?_)))))))))
    unfold wY_evClose_63
    exact (ya_fin1 HP (by decide) (by decide) (hQ _ _ _ _))
theorem ev_good (HP : pn_P P p) (V : pn_V st ti lo hi ic q no) (hM : ∀ f, f < 7 → ih f = M f) (hN : ∀ f, f < 7 → mg f = M f) (h2s : 2 ≤ st p) (hro : ∀ k, k < 4 → ro k = (fun j => M (3 + j)) k) (H : pn_H post p ih mg (fun Q => ∀ rp ca sg : Nat → Int32, wpY_rcrPlus Q (C, T, F, K, pn_I st rs ti ni cr hc nk ms ei us dn sa fi, pn_O lo hi wa ic se lc rm, w, q, mg, ou, rp, ca, sg) P)) : wpX_onGoodRequest post (C, T, F, K, rc, st, rs, ti, ni, cr, hc, nk, ms, ei, us, dn, sa, fi, lo, hi, wa, ic, se, lc, rm, w, q, ih, vd, ro, no) P := by
  obtain ⟨VS, VO, VQ, VN⟩ := V
  have hp := pp_lt HP
  have pv := pp_v HP
  obtain ⟨s, hs9, es, ht⟩ := VS p hp
  obtain ⟨z, hz8, ez⟩ := VQ p hp
  obtain ⟨z2, hz82, ez2⟩ := (pn_VQ_a VQ hp) p hp
  have hs2 : 2 ≤ s := by
    rw [es] at h2s
    exact (nI_leI (a := 2) (by decide) (by omega)).mp h2s
  have m1 := hM 1 (by decide)
  have y1 := hN 1 (by decide)
  have hmr : ∀ k, k < 4 → mg (3 + k) = (fun j => M (3 + j)) k := fun k hk => hN (3 + k) (by omega)
  unfold wpX_onGoodRequest wX_onGoodRequest_91
  refine ⟨pv, ?_⟩
  rw [pp_n HP]
  have hcase : s = 2 ∨ s = 3 ∨ s = 4 ∨ s = 5 ∨ s = 6 ∨ s = 7 ∨ s = 8 ∨ s = 9 := by omega
  rcases hcase with rfl | rfl | rfl | rfl | rfl | rfl | rfl | rfl
  · have e : st p = 2 := es
    rw [e]
    refine (nm_e (br_f (by decide) (br_f (by decide) (br_t (by decide) (xa_sta HP VN ez hz8 m1 ?_)))))
    have tj : ∀ t : Nat → Int32, pn_tj st t p = upd t p 0 := fun t => pn_tj_off (by rw [e]; decide)
    refine H _ _ _ _ _ _ _ _ _ _ _ _ _ _ _ _ _ _ _ _ _ _ _ _ _ _ _ _ _ _ ?_ (fun Q hQ => ?_)
    · rw [tj]; exact ⟨(pn_VS_k (n := 2) VS hp es (by decide) (fun j ej => by first | rfl | (rw [pn_ne _ _ ej]) | (rw [pn_ne _ _ ej, pn_ne _ _ ej])) (fun _ => pn_at _ _ _)), VO, (pn_VQ_a VQ hp), VN⟩
    rw [tj] at hQ
    intro rp0 ca0 sg0
    unfold wpY_rcrPlus
    refine ya_st HP ?_
    rw [e]
    refine (br_t (by decide) (ya_sta HP ez hz8 y1 (fun _ => (br_f (by decide) (br_f (by decide) (br_f (by decide) (br_f (by decide) (br_f (by decide) ?_))))))))
    unfold wY_rcrPlus_109
    exact (ya_fins0 HP e (by decide) (hQ _ _ _ _))
  · have e : st p = 3 := es
    rw [e]
    refine (nm_e (br_f (by decide) (br_f (by decide) (br_f (by decide) (br_t (by decide) ⟨pv, (nm_e (xa_scr HP ez hz8 (xa_sca HP ez2 hz82 m1 hro ⟨pv, (nm_e ?_)⟩)))⟩)))))
    have tj : ∀ t : Nat → Int32, pn_tj (upd st p 8) t p = t := fun t => pn_tj_on (by rw [pn_at]; decide) (by rw [pn_at]; decide)
    refine H _ _ _ _ _ _ _ _ _ _ _ _ _ _ _ _ _ _ _ _ _ _ _ _ _ _ _ _ _ _ ?_ (fun Q hQ => ?_)
    · rw [tj]; exact ⟨(pn_VS_u (n := 8) VS rfl (by decide) (fun j ej => by first | rfl | (rw [pn_ne _ _ ej]) | (rw [pn_ne _ _ ej, pn_ne _ _ ej])) (fun z => absurd z (by decide))), VO, (pn_VQ_a (pn_VQ_a VQ hp) hp), VN⟩
    rw [tj] at hQ
    intro rp0 ca0 sg0
    unfold wpY_rcrPlus
    refine ya_st HP ?_
    rw [e]
    refine (br_f (by decide) (br_t (by decide) (ya_ircC HP (ya_scr HP VO ez hz8 (fun _ => (ya_sca HP ez2 hz82 y1 hmr (fun _ => (br_f (by decide) (br_f (by decide) (br_f (by decide) (br_f (by decide) ?_)))))))))))
    unfold wY_rcrPlus_109
    exact (ya_fin1 HP (by decide) (by decide) (hQ _ _ _ _))
  · have e : st p = 4 := es
    rw [e]
    refine (nm_e (br_f (by decide) (br_f (by decide) (br_f (by decide) (br_f (by decide) (br_t (by decide) ?_))))))
    have tj : ∀ t : Nat → Int32, pn_tj st t p = t := fun t => pn_tj_on (by rw [e]; decide) (by rw [e]; decide)
    refine H _ _ _ _ _ _ _ _ _ _ _ _ _ _ _ _ _ _ _ _ _ _ _ _ _ _ _ _ _ _ ?_ (fun Q hQ => ?_)
    · rw [tj]; exact ⟨(pn_VS_k (n := 4) VS hp es (by decide) (fun j ej => by first | rfl | (rw [pn_ne _ _ ej]) | (rw [pn_ne _ _ ej, pn_ne _ _ ej])) (fun z => absurd z (by decide))), VO, VQ, VN⟩
    rw [tj] at hQ
    intro rp0 ca0 sg0
    unfold wpY_rcrPlus
    refine ya_st HP ?_
    rw [e]
    refine (br_f (by decide) (br_f (by decide) (br_f (by decide) (br_f (by decide) (br_f (by decide) (br_f (by decide) ?_))))))
    unfold wY_rcrPlus_109
    exact (ya_fins1 HP e (by decide) (by decide) (hQ _ _ _ _))
  · have e : st p = 5 := es
    rw [e]
    refine (nm_e (br_f (by decide) (br_f (by decide) (br_f (by decide) (br_f (by decide) (br_f (by decide) (br_t (by decide) ?_)))))))
    have tj : ∀ t : Nat → Int32, pn_tj st t p = t := fun t => pn_tj_on (by rw [e]; decide) (by rw [e]; decide)
    refine H _ _ _ _ _ _ _ _ _ _ _ _ _ _ _ _ _ _ _ _ _ _ _ _ _ _ _ _ _ _ ?_ (fun Q hQ => ?_)
    · rw [tj]; exact ⟨(pn_VS_k (n := 5) VS hp es (by decide) (fun j ej => by first | rfl | (rw [pn_ne _ _ ej]) | (rw [pn_ne _ _ ej, pn_ne _ _ ej])) (fun z => absurd z (by decide))), VO, VQ, VN⟩
    rw [tj] at hQ
    intro rp0 ca0 sg0
    unfold wpY_rcrPlus
    refine ya_st HP ?_
    rw [e]
    refine (br_f (by decide) (br_f (by decide) (br_f (by decide) (br_f (by decide) (br_f (by decide) (br_f (by decide) ?_))))))
    unfold wY_rcrPlus_109
    exact (ya_fins1 HP e (by decide) (by decide) (hQ _ _ _ _))
  · have e : st p = 6 := es
    rw [e]
    refine (nm_e (br_f (by decide) (br_f (by decide) (br_f (by decide) (br_f (by decide) (br_f (by decide) (br_f (by decide) (br_t (by decide) (xa_sca HP ez hz8 m1 hro ⟨pv, (nm_e ?_)⟩)))))))))
    have tj : ∀ t : Nat → Int32, pn_tj (upd st p 8) t p = t := fun t => pn_tj_on (by rw [pn_at]; decide) (by rw [pn_at]; decide)
    refine H _ _ _ _ _ _ _ _ _ _ _ _ _ _ _ _ _ _ _ _ _ _ _ _ _ _ _ _ _ _ ?_ (fun Q hQ => ?_)
    · rw [tj]; exact ⟨(pn_VS_u (n := 8) VS rfl (by decide) (fun j ej => by first | rfl | (rw [pn_ne _ _ ej]) | (rw [pn_ne _ _ ej, pn_ne _ _ ej])) (fun z => absurd z (by decide))), VO, (pn_VQ_a VQ hp), VN⟩
    rw [tj] at hQ
    intro rp0 ca0 sg0
    unfold wpY_rcrPlus
    refine ya_st HP ?_
    rw [e]
    refine (br_f (by decide) (br_f (by decide) (br_t (by decide) (ya_sca HP ez hz8 y1 hmr (fun _ => (br_f (by decide) (br_f (by decide) (br_f (by decide) ?_))))))))
    unfold wY_rcrPlus_109
    exact (ya_fin1 HP (by decide) (by decide) (hQ _ _ _ _))
  · have e : st p = 7 := es
    rw [e]
    refine (nm_e (br_f (by decide) (br_f (by decide) (br_f (by decide) (br_f (by decide) (br_f (by decide) (br_f (by decide) (br_f (by decide) (br_t (by decide) (xa_sca HP ez hz8 m1 hro (xa_tlu HP ⟨pv, (nm_e ?_)⟩)))))))))))
    have tj : ∀ t : Nat → Int32, pn_tj (upd st p 9) t p = upd t p 0 := fun t => pn_tj_off (by rw [pn_at]; decide)
    refine H _ _ _ _ _ _ _ _ _ _ _ _ _ _ _ _ _ _ _ _ _ _ _ _ _ _ _ _ _ _ ?_ (fun Q hQ => ?_)
    · rw [tj]; exact ⟨(pn_VS_u (n := 9) VS rfl (by decide) (fun j ej => by first | rfl | (rw [pn_ne _ _ ej]) | (rw [pn_ne _ _ ej, pn_ne _ _ ej])) (fun _ => pn_at _ _ _)), VO, (pn_VQ_a VQ hp), VN⟩
    rw [tj] at hQ
    intro rp0 ca0 sg0
    unfold wpY_rcrPlus
    refine ya_st HP ?_
    rw [e]
    refine (br_f (by decide) (br_f (by decide) (br_f (by decide) (br_t (by decide) (ya_sca HP ez hz8 y1 hmr (fun _ => (ya_tlu HP (br_f (by decide) (br_f (by decide) ?_)))))))))
    unfold wY_rcrPlus_109
    exact (ya_fin0 HP (by decide) (hQ _ _ _ _))
  · have e : st p = 8 := es
    rw [e]
    refine (nm_e (br_f (by decide) (br_f (by decide) (br_f (by decide) (br_f (by decide) (br_f (by decide) (br_f (by decide) (br_f (by decide) (br_f (by decide) (br_t (by decide) (xa_sca HP ez hz8 m1 hro ⟨pv, (nm_e ?_)⟩)))))))))))
    have tj : ∀ t : Nat → Int32, pn_tj (upd st p 8) t p = t := fun t => pn_tj_on (by rw [pn_at]; decide) (by rw [pn_at]; decide)
    refine H _ _ _ _ _ _ _ _ _ _ _ _ _ _ _ _ _ _ _ _ _ _ _ _ _ _ _ _ _ _ ?_ (fun Q hQ => ?_)
    · rw [tj]; exact ⟨(pn_VS_u (n := 8) VS rfl (by decide) (fun j ej => by first | rfl | (rw [pn_ne _ _ ej]) | (rw [pn_ne _ _ ej, pn_ne _ _ ej])) (fun z => absurd z (by decide))), VO, (pn_VQ_a VQ hp), VN⟩
    rw [tj] at hQ
    intro rp0 ca0 sg0
    unfold wpY_rcrPlus
    refine ya_st HP ?_
    rw [e]
    refine (br_f (by decide) (br_f (by decide) (br_f (by decide) (br_f (by decide) (br_t (by decide) (ya_sca HP ez hz8 y1 hmr (fun _ => (br_f (by decide) ?_))))))))
    unfold wY_rcrPlus_109
    exact (ya_fin1 HP (by decide) (by decide) (hQ _ _ _ _))
  · have e : st p = 9 := es
    rw [e]
    refine (nm_e (br_f (by decide) (br_f (by decide) (br_f (by decide) (br_f (by decide) (br_f (by decide) (br_f (by decide) (br_f (by decide) (br_f (by decide) (br_f (by decide) (br_t (by decide) ⟨pv, ⟨pv, (nm_e (xa_scr HP ez hz8 (xa_sca HP ez2 hz82 m1 hro ⟨pv, (nm_e ?_)⟩)))⟩⟩)))))))))))
    have tj : ∀ t : Nat → Int32, pn_tj (upd st p 8) t p = t := fun t => pn_tj_on (by rw [pn_at]; decide) (by rw [pn_at]; decide)
    refine H _ _ _ _ _ _ _ _ _ _ _ _ _ _ _ _ _ _ _ _ _ _ _ _ _ _ _ _ _ _ ?_ (fun Q hQ => ?_)
    · rw [tj]; exact ⟨(pn_VS_u (n := 8) VS rfl (by decide) (fun j ej => by first | rfl | (rw [pn_ne _ _ ej]) | (rw [pn_ne _ _ ej, pn_ne _ _ ej])) (fun z => absurd z (by decide))), VO, (pn_VQ_a (pn_VQ_a VQ hp) hp), VN⟩
    rw [tj] at hQ
    intro rp0 ca0 sg0
    unfold wpY_rcrPlus
    refine ya_st HP ?_
    rw [e]
    refine (br_f (by decide) (br_f (by decide) (br_f (by decide) (br_f (by decide) (br_f (by decide) (br_t (by decide) (ya_tld HP (ya_scr HP VO ez hz8 (fun _ => (ya_sca HP ez2 hz82 y1 hmr (fun _ => ?_)))))))))))
    unfold wY_rcrPlus_109
    exact (ya_fin1 HP (by decide) (by decide) (hQ _ _ _ _))
theorem ev_bad (HP : pn_P P p) (V : pn_V st ti lo hi ic q no) (hM : ∀ f, f < 7 → ih f = M f) (hN : ∀ f, f < 7 → mg f = M f) (h2s : 2 ≤ st p) {R : Nat → Int32} (hro : ∀ k, k < 4 → ro k = R k) (H : pn_H post p ih mg (fun Q => ∀ rp ca sg : Nat → Int32, rp 0 = rc → rp 1 = M 1 → rp 2 = 0 → (∀ k, k < 4 → rp (3 + k) = R k) → wpY_rcrMinus Q (C, T, F, K, pn_I st rs ti ni cr hc nk ms ei us dn sa fi, pn_O lo hi wa ic se lc rm, w, q, mg, ou, rp, ca, sg) P)) : wpX_onBadRequest post (C, T, F, K, rc, st, rs, ti, ni, cr, hc, nk, ms, ei, us, dn, sa, fi, lo, hi, wa, ic, se, lc, rm, w, q, ih, vd, ro, no) P := by
  obtain ⟨VS, VO, VQ, VN⟩ := V
  have hp := pp_lt HP
  have pv := pp_v HP
  obtain ⟨s, hs9, es, ht⟩ := VS p hp
  obtain ⟨z, hz8, ez⟩ := VQ p hp
  obtain ⟨z2, hz82, ez2⟩ := (pn_VQ_a VQ hp) p hp
  have hs2 : 2 ≤ s := by
    rw [es] at h2s
    exact (nI_leI (a := 2) (by decide) (by omega)).mp h2s
  have m1 := hM 1 (by decide)
  have y1 := hN 1 (by decide)
  unfold wpX_onBadRequest wX_onBadRequest_91
  refine ⟨pv, ?_⟩
  rw [pp_n HP]
  have hcase : s = 2 ∨ s = 3 ∨ s = 4 ∨ s = 5 ∨ s = 6 ∨ s = 7 ∨ s = 8 ∨ s = 9 := by omega
  rcases hcase with rfl | rfl | rfl | rfl | rfl | rfl | rfl | rfl
  · have e : st p = 2 := es
    rw [e]
    refine (nm_e (br_f (by decide) (br_f (by decide) (br_t (by decide) (xa_sta HP VN ez hz8 m1 ?_)))))
    have tj : ∀ t : Nat → Int32, pn_tj st t p = upd t p 0 := fun t => pn_tj_off (by rw [e]; decide)
    refine H _ _ _ _ _ _ _ _ _ _ _ _ _ _ _ _ _ _ _ _ _ _ _ _ _ _ _ _ _ _ ?_ (fun Q hQ => ?_)
    · rw [tj]; exact ⟨(pn_VS_k (n := 2) VS hp es (by decide) (fun j ej => by first | rfl | (rw [pn_ne _ _ ej]) | (rw [pn_ne _ _ ej, pn_ne _ _ ej])) (fun _ => pn_at _ _ _)), VO, (pn_VQ_a VQ hp), VN⟩
    rw [tj] at hQ
    intro rp0 ca0 sg0 r0 r1 r2 hrp
    unfold wpY_rcrMinus
    refine ya_st HP ?_
    rw [e]
    refine (br_t (by decide) (ya_sta HP ez hz8 y1 (fun _ => (br_f (by decide) (br_t (by decide) (br_f (by decide) (br_f (by decide) ?_)))))))
    unfold wY_rcrMinus_91
    exact (ya_fins0 HP e (by decide) (hQ _ _ _ _))
  · have e : st p = 3 := es
    rw [e]
    refine (nm_e (br_f (by decide) (br_f (by decide) (br_f (by decide) (br_t (by decide) ⟨pv, (nm_e (xa_scr HP ez hz8 (xa_scn HP ez2 hz82 m1 hro ⟨pv, (nm_e ?_)⟩)))⟩)))))
    have tj : ∀ t : Nat → Int32, pn_tj (upd st p 6) t p = t := fun t => pn_tj_on (by rw [pn_at]; decide) (by rw [pn_at]; decide)
    refine H _ _ _ _ _ _ _ _ _ _ _ _ _ _ _ _ _ _ _ _ _ _ _ _ _ _ _ _ _ _ ?_ (fun Q hQ => ?_)
    · rw [tj]; exact ⟨(pn_VS_u (n := 6) VS rfl (by decide) (fun j ej => by first | rfl | (rw [pn_ne _ _ ej]) | (rw [pn_ne _ _ ej, pn_ne _ _ ej])) (fun z => absurd z (by decide))), VO, (pn_VQ_a (pn_VQ_a VQ hp) hp), VN⟩
    rw [tj] at hQ
    intro rp0 ca0 sg0 r0 r1 r2 hrp
    unfold wpY_rcrMinus
    refine ya_st HP ?_
    rw [e]
    refine (br_f (by decide) (br_t (by decide) (ya_ircC HP (ya_scr HP VO ez hz8 (fun _ => (ya_scn HP ez2 hz82 r0 r1 r2 hrp (fun _ => (br_t (by decide) (br_f (by decide) (br_f (by decide) ?_))))))))))
    unfold wY_rcrMinus_91
    exact (ya_fin1 HP (by decide) (by decide) (hQ _ _ _ _))
  · have e : st p = 4 := es
    rw [e]
    refine (nm_e (br_f (by decide) (br_f (by decide) (br_f (by decide) (br_f (by decide) (br_t (by decide) ?_))))))
    have tj : ∀ t : Nat → Int32, pn_tj st t p = t := fun t => pn_tj_on (by rw [e]; decide) (by rw [e]; decide)
    refine H _ _ _ _ _ _ _ _ _ _ _ _ _ _ _ _ _ _ _ _ _ _ _ _ _ _ _ _ _ _ ?_ (fun Q hQ => ?_)
    · rw [tj]; exact ⟨(pn_VS_k (n := 4) VS hp es (by decide) (fun j ej => by first | rfl | (rw [pn_ne _ _ ej]) | (rw [pn_ne _ _ ej, pn_ne _ _ ej])) (fun z => absurd z (by decide))), VO, VQ, VN⟩
    rw [tj] at hQ
    intro rp0 ca0 sg0 r0 r1 r2 hrp
    unfold wpY_rcrMinus
    refine ya_st HP ?_
    rw [e]
    refine (br_f (by decide) (br_f (by decide) (br_t (by decide) (br_f (by decide) (br_f (by decide) ?_)))))
    unfold wY_rcrMinus_91
    exact (ya_fins1 HP e (by decide) (by decide) (hQ _ _ _ _))
  · have e : st p = 5 := es
    rw [e]
    refine (nm_e (br_f (by decide) (br_f (by decide) (br_f (by decide) (br_f (by decide) (br_f (by decide) (br_t (by decide) ?_)))))))
    have tj : ∀ t : Nat → Int32, pn_tj st t p = t := fun t => pn_tj_on (by rw [e]; decide) (by rw [e]; decide)
    refine H _ _ _ _ _ _ _ _ _ _ _ _ _ _ _ _ _ _ _ _ _ _ _ _ _ _ _ _ _ _ ?_ (fun Q hQ => ?_)
    · rw [tj]; exact ⟨(pn_VS_k (n := 5) VS hp es (by decide) (fun j ej => by first | rfl | (rw [pn_ne _ _ ej]) | (rw [pn_ne _ _ ej, pn_ne _ _ ej])) (fun z => absurd z (by decide))), VO, VQ, VN⟩
    rw [tj] at hQ
    intro rp0 ca0 sg0 r0 r1 r2 hrp
    unfold wpY_rcrMinus
    refine ya_st HP ?_
    rw [e]
    refine (br_f (by decide) (br_f (by decide) (br_t (by decide) (br_f (by decide) (br_f (by decide) ?_)))))
    unfold wY_rcrMinus_91
    exact (ya_fins1 HP e (by decide) (by decide) (hQ _ _ _ _))
  · have e : st p = 6 := es
    rw [e]
    refine (nm_e (br_f (by decide) (br_f (by decide) (br_f (by decide) (br_f (by decide) (br_f (by decide) (br_f (by decide) (br_t (by decide) (xa_scn HP ez hz8 m1 hro ⟨pv, (nm_e ?_)⟩)))))))))
    have tj : ∀ t : Nat → Int32, pn_tj (upd st p 6) t p = t := fun t => pn_tj_on (by rw [pn_at]; decide) (by rw [pn_at]; decide)
    refine H _ _ _ _ _ _ _ _ _ _ _ _ _ _ _ _ _ _ _ _ _ _ _ _ _ _ _ _ _ _ ?_ (fun Q hQ => ?_)
    · rw [tj]; exact ⟨(pn_VS_u (n := 6) VS rfl (by decide) (fun j ej => by first | rfl | (rw [pn_ne _ _ ej]) | (rw [pn_ne _ _ ej, pn_ne _ _ ej])) (fun z => absurd z (by decide))), VO, (pn_VQ_a VQ hp), VN⟩
    rw [tj] at hQ
    intro rp0 ca0 sg0 r0 r1 r2 hrp
    unfold wpY_rcrMinus
    refine ya_st HP ?_
    rw [e]
    refine (br_f (by decide) (br_f (by decide) (br_f (by decide) (br_f (by decide) (ya_scn HP ez hz8 r0 r1 r2 hrp (fun _ => (br_f (by decide) (br_f (by decide) ?_))))))))
    unfold wY_rcrMinus_91
    exact (ya_fin1 HP (by decide) (by decide) (hQ _ _ _ _))
  · have e : st p = 7 := es
    rw [e]
    refine (nm_e (br_f (by decide) (br_f (by decide) (br_f (by decide) (br_f (by decide) (br_f (by decide) (br_f (by decide) (br_f (by decide) (br_t (by decide) (xa_scn HP ez hz8 m1 hro ?_))))))))))
    have tj : ∀ t : Nat → Int32, pn_tj st t p = t := fun t => pn_tj_on (by rw [e]; decide) (by rw [e]; decide)
    refine H _ _ _ _ _ _ _ _ _ _ _ _ _ _ _ _ _ _ _ _ _ _ _ _ _ _ _ _ _ _ ?_ (fun Q hQ => ?_)
    · rw [tj]; exact ⟨(pn_VS_k (n := 7) VS hp es (by decide) (fun j ej => by first | rfl | (rw [pn_ne _ _ ej]) | (rw [pn_ne _ _ ej, pn_ne _ _ ej])) (fun z => absurd z (by decide))), VO, (pn_VQ_a VQ hp), VN⟩
    rw [tj] at hQ
    intro rp0 ca0 sg0 r0 r1 r2 hrp
    unfold wpY_rcrMinus
    refine ya_st HP ?_
    rw [e]
    refine (br_f (by decide) (br_f (by decide) (br_f (by decide) (br_f (by decide) (ya_scn HP ez hz8 r0 r1 r2 hrp (fun _ => (br_f (by decide) (br_f (by decide) ?_))))))))
    unfold wY_rcrMinus_91
    exact (ya_fins1 HP e (by decide) (by decide) (hQ _ _ _ _))
  · have e : st p = 8 := es
    rw [e]
    refine (nm_e (br_f (by decide) (br_f (by decide) (br_f (by decide) (br_f (by decide) (br_f (by decide) (br_f (by decide) (br_f (by decide) (br_f (by decide) (br_t (by decide) (xa_scn HP ez hz8 m1 hro ⟨pv, (nm_e ?_)⟩)))))))))))
    have tj : ∀ t : Nat → Int32, pn_tj (upd st p 6) t p = t := fun t => pn_tj_on (by rw [pn_at]; decide) (by rw [pn_at]; decide)
    refine H _ _ _ _ _ _ _ _ _ _ _ _ _ _ _ _ _ _ _ _ _ _ _ _ _ _ _ _ _ _ ?_ (fun Q hQ => ?_)
    · rw [tj]; exact ⟨(pn_VS_u (n := 6) VS rfl (by decide) (fun j ej => by first | rfl | (rw [pn_ne _ _ ej]) | (rw [pn_ne _ _ ej, pn_ne _ _ ej])) (fun z => absurd z (by decide))), VO, (pn_VQ_a VQ hp), VN⟩
    rw [tj] at hQ
    intro rp0 ca0 sg0 r0 r1 r2 hrp
    unfold wpY_rcrMinus
    refine ya_st HP ?_
    rw [e]
    refine (br_f (by decide) (br_f (by decide) (br_f (by decide) (br_f (by decide) (ya_scn HP ez hz8 r0 r1 r2 hrp (fun _ => (br_t (by decide) (br_f (by decide) ?_))))))))
    unfold wY_rcrMinus_91
    exact (ya_fin1 HP (by decide) (by decide) (hQ _ _ _ _))
  · have e : st p = 9 := es
    rw [e]
    refine (nm_e (br_f (by decide) (br_f (by decide) (br_f (by decide) (br_f (by decide) (br_f (by decide) (br_f (by decide) (br_f (by decide) (br_f (by decide) (br_f (by decide) (br_t (by decide) ⟨pv, ⟨pv, (nm_e (xa_scr HP ez hz8 (xa_scn HP ez2 hz82 m1 hro ⟨pv, (nm_e ?_)⟩)))⟩⟩)))))))))))
    have tj : ∀ t : Nat → Int32, pn_tj (upd st p 6) t p = t := fun t => pn_tj_on (by rw [pn_at]; decide) (by rw [pn_at]; decide)
    refine H _ _ _ _ _ _ _ _ _ _ _ _ _ _ _ _ _ _ _ _ _ _ _ _ _ _ _ _ _ _ ?_ (fun Q hQ => ?_)
    · rw [tj]; exact ⟨(pn_VS_u (n := 6) VS rfl (by decide) (fun j ej => by first | rfl | (rw [pn_ne _ _ ej]) | (rw [pn_ne _ _ ej, pn_ne _ _ ej])) (fun z => absurd z (by decide))), VO, (pn_VQ_a (pn_VQ_a VQ hp) hp), VN⟩
    rw [tj] at hQ
    intro rp0 ca0 sg0 r0 r1 r2 hrp
    unfold wpY_rcrMinus
    refine ya_st HP ?_
    rw [e]
    refine (br_f (by decide) (br_f (by decide) (br_f (by decide) (br_t (by decide) (br_f (by decide) (br_t (by decide) (ya_tld HP (ya_scr HP VO ez hz8 (fun _ => (ya_scn HP ez2 hz82 r0 r1 r2 hrp (fun _ => ?_)))))))))))
    unfold wY_rcrMinus_91
    exact (ya_fin1 HP (by decide) (by decide) (hQ _ _ _ _))
theorem ev_ack (HP : pn_P P p) (V : pn_V st ti lo hi ic q no) (hM : ∀ f, f < 7 → ih f = M f) (hN : ∀ f, f < 7 → mg f = M f) (h2s : 2 ≤ st p) (H : pn_H post p ih mg (fun Q => wpY_rca Q (C, T, F, K, pn_I st rs ti ni cr hc nk ms ei us dn sa fi, pn_O lo hi wa ic se lc rm, w, q, mg, ou, rp, ca, sg) P)) : wpX_onAck post (C, T, F, K, rc, st, rs, ti, ni, cr, hc, nk, ms, ei, us, dn, sa, fi, lo, hi, wa, ic, se, lc, rm, w, q, ih, vd, ro, no) P := by
  obtain ⟨VS, VO, VQ, VN⟩ := V
  have hp := pp_lt HP
  have pv := pp_v HP
  obtain ⟨s, hs9, es, ht⟩ := VS p hp
  obtain ⟨z, hz8, ez⟩ := VQ p hp
  obtain ⟨z2, hz82, ez2⟩ := (pn_VQ_a VQ hp) p hp
  have hs2 : 2 ≤ s := by
    rw [es] at h2s
    exact (nI_leI (a := 2) (by decide) (by omega)).mp h2s
  have m1 := hM 1 (by decide)
  have y1 := hN 1 (by decide)
  unfold wpX_onAck wX_onAck_52
  refine ⟨pv, ?_⟩
  rw [pp_n HP]
  have hcase : s = 2 ∨ s = 3 ∨ s = 4 ∨ s = 5 ∨ s = 6 ∨ s = 7 ∨ s = 8 ∨ s = 9 := by omega
  rcases hcase with rfl | rfl | rfl | rfl | rfl | rfl | rfl | rfl
  · have e : st p = 2 := es
    rw [e]
    refine (nm_e (br_f (by decide) (br_f (by decide) (br_t (by decide) (xa_sta HP VN ez hz8 m1 ?_)))))
    have tj : ∀ t : Nat → Int32, pn_tj st t p = upd t p 0 := fun t => pn_tj_off (by rw [e]; decide)
    refine H _ _ _ _ _ _ _ _ _ _ _ _ _ _ _ _ _ _ _ _ _ _ _ _ _ _ _ _ _ _ ?_ (fun Q hQ => ?_)
    · rw [tj]; exact ⟨(pn_VS_k (n := 2) VS hp es (by decide) (fun j ej => by first | rfl | (rw [pn_ne _ _ ej]) | (rw [pn_ne _ _ ej, pn_ne _ _ ej])) (fun _ => pn_at _ _ _)), VO, (pn_VQ_a VQ hp), VN⟩
    rw [tj] at hQ
    unfold wpY_rca
    refine ya_st HP ?_
    rw [e]
    refine (br_t (by decide) ?_)
    unfold wY_rca_18
    refine (ya_sta HP ez hz8 y1 (fun _ => (br_f (by decide) (br_f (by decide) (br_f (by decide) (br_f (by decide) ?_))))))
    unfold wY_rca_89
    exact (ya_fins0 HP e (by decide) (hQ _ _ _ _))
  · have e : st p = 3 := es
    rw [e]
    refine (nm_e (br_f (by decide) (br_f (by decide) (br_f (by decide) (br_t (by decide) (xa_sta HP VN ez hz8 m1 ?_))))))
    have tj : ∀ t : Nat → Int32, pn_tj st t p = upd t p 0 := fun t => pn_tj_off (by rw [e]; decide)
    refine H _ _ _ _ _ _ _ _ _ _ _ _ _ _ _ _ _ _ _ _ _ _ _ _ _ _ _ _ _ _ ?_ (fun Q hQ => ?_)
    · rw [tj]; exact ⟨(pn_VS_k (n := 3) VS hp es (by decide) (fun j ej => by first | rfl | (rw [pn_ne _ _ ej]) | (rw [pn_ne _ _ ej, pn_ne _ _ ej])) (fun _ => pn_at _ _ _)), VO, (pn_VQ_a VQ hp), VN⟩
    rw [tj] at hQ
    unfold wpY_rca
    refine ya_st HP ?_
    rw [e]
    refine (br_f (by decide) (br_t (by decide) ?_))
    unfold wY_rca_18
    refine (ya_sta HP ez hz8 y1 (fun _ => (br_f (by decide) (br_f (by decide) (br_f (by decide) (br_f (by decide) ?_))))))
    unfold wY_rca_89
    exact (ya_fins0 HP e (by decide) (hQ _ _ _ _))
  · have e : st p = 4 := es
    rw [e]
    refine (nm_e (br_f (by decide) (br_f (by decide) (br_f (by decide) (br_f (by decide) (br_t (by decide) ?_))))))
    have tj : ∀ t : Nat → Int32, pn_tj st t p = t := fun t => pn_tj_on (by rw [e]; decide) (by rw [e]; decide)
    refine H _ _ _ _ _ _ _ _ _ _ _ _ _ _ _ _ _ _ _ _ _ _ _ _ _ _ _ _ _ _ ?_ (fun Q hQ => ?_)
    · rw [tj]; exact ⟨(pn_VS_k (n := 4) VS hp es (by decide) (fun j ej => by first | rfl | (rw [pn_ne _ _ ej]) | (rw [pn_ne _ _ ej, pn_ne _ _ ej])) (fun z => absurd z (by decide))), VO, VQ, VN⟩
    rw [tj] at hQ
    unfold wpY_rca
    refine ya_st HP ?_
    rw [e]
    refine (br_f (by decide) (br_f (by decide) (br_f (by decide) (br_f (by decide) (br_f (by decide) (br_f (by decide) ?_))))))
    unfold wY_rca_89
    exact (ya_fins1 HP e (by decide) (by decide) (hQ _ _ _ _))
  · have e : st p = 5 := es
    rw [e]
    refine (nm_e (br_f (by decide) (br_f (by decide) (br_f (by decide) (br_f (by decide) (br_f (by decide) (br_t (by decide) ?_)))))))
    have tj : ∀ t : Nat → Int32, pn_tj st t p = t := fun t => pn_tj_on (by rw [e]; decide) (by rw [e]; decide)
    refine H _ _ _ _ _ _ _ _ _ _ _ _ _ _ _ _ _ _ _ _ _ _ _ _ _ _ _ _ _ _ ?_ (fun Q hQ => ?_)
    · rw [tj]; exact ⟨(pn_VS_k (n := 5) VS hp es (by decide) (fun j ej => by first | rfl | (rw [pn_ne _ _ ej]) | (rw [pn_ne _ _ ej, pn_ne _ _ ej])) (fun z => absurd z (by decide))), VO, VQ, VN⟩
    rw [tj] at hQ
    unfold wpY_rca
    refine ya_st HP ?_
    rw [e]
    refine (br_f (by decide) (br_f (by decide) (br_f (by decide) (br_f (by decide) (br_f (by decide) (br_f (by decide) ?_))))))
    unfold wY_rca_89
    exact (ya_fins1 HP e (by decide) (by decide) (hQ _ _ _ _))
  · have e : st p = 6 := es
    rw [e]
    refine (nm_e (br_f (by decide) (br_f (by decide) (br_f (by decide) (br_f (by decide) (br_f (by decide) (br_f (by decide) (br_t (by decide) ⟨pv, (nm_e ⟨pv, (nm_e ?_)⟩)⟩))))))))
    have tj : ∀ t : Nat → Int32, pn_tj (upd st p 7) t p = t := fun t => pn_tj_on (by rw [pn_at]; decide) (by rw [pn_at]; decide)
    refine H _ _ _ _ _ _ _ _ _ _ _ _ _ _ _ _ _ _ _ _ _ _ _ _ _ _ _ _ _ _ ?_ (fun Q hQ => ?_)
    · rw [tj]; exact ⟨(pn_VS_u (n := 7) VS rfl (by decide) (fun j ej => by first | rfl | (rw [pn_ne _ _ ej]) | (rw [pn_ne _ _ ej, pn_ne _ _ ej])) (fun z => absurd z (by decide))), VO, VQ, VN⟩
    rw [tj] at hQ
    unfold wpY_rca
    refine ya_st HP ?_
    rw [e]
    refine (br_f (by decide) (br_f (by decide) (br_t (by decide) (ya_ircC HP (br_f (by decide) (br_f (by decide) (br_f (by decide) ?_)))))))
    unfold wY_rca_89
    exact (ya_fin1 HP (by decide) (by decide) (hQ _ _ _ _))
  · have e : st p = 7 := es
    rw [e]
    refine (nm_e (br_f (by decide) (br_f (by decide) (br_f (by decide) (br_f (by decide) (br_f (by decide) (br_f (by decide) (br_f (by decide) (br_t (by decide) (xa_scr HP ez hz8 ⟨pv, (nm_e ?_)⟩))))))))))
    have tj : ∀ t : Nat → Int32, pn_tj (upd st p 6) t p = t := fun t => pn_tj_on (by rw [pn_at]; decide) (by rw [pn_at]; decide)
    refine H _ _ _ _ _ _ _ _ _ _ _ _ _ _ _ _ _ _ _ _ _ _ _ _ _ _ _ _ _ _ ?_ (fun Q hQ => ?_)
    · rw [tj]; exact ⟨(pn_VS_u (n := 6) VS rfl (by decide) (fun j ej => by first | rfl | (rw [pn_ne _ _ ej]) | (rw [pn_ne _ _ ej, pn_ne _ _ ej])) (fun z => absurd z (by decide))), VO, (pn_VQ_a VQ hp), VN⟩
    rw [tj] at hQ
    unfold wpY_rca
    refine ya_st HP ?_
    rw [e]
    refine (br_f (by decide) (br_f (by decide) (br_f (by decide) (br_t (by decide) (ya_scr HP VO ez hz8 (fun _ => (br_f (by decide) (br_f (by decide) ?_))))))))
    unfold wY_rca_89
    exact (ya_fin1 HP (by decide) (by decide) (hQ _ _ _ _))
  · have e : st p = 8 := es
    rw [e]
    refine (nm_e (br_f (by decide) (br_f (by decide) (br_f (by decide) (br_f (by decide) (br_f (by decide) (br_f (by decide) (br_f (by decide) (br_f (by decide) (br_t (by decide) ⟨pv, (nm_e (xa_tlu HP ⟨pv, (nm_e ?_)⟩))⟩))))))))))
    have tj : ∀ t : Nat → Int32, pn_tj (upd st p 9) t p = upd t p 0 := fun t => pn_tj_off (by rw [pn_at]; decide)
    refine H _ _ _ _ _ _ _ _ _ _ _ _ _ _ _ _ _ _ _ _ _ _ _ _ _ _ _ _ _ _ ?_ (fun Q hQ => ?_)
    · rw [tj]; exact ⟨(pn_VS_u (n := 9) VS rfl (by decide) (fun j ej => by first | rfl | (rw [pn_ne _ _ ej]) | (rw [pn_ne _ _ ej, pn_ne _ _ ej])) (fun _ => pn_at _ _ _)), VO, VQ, VN⟩
    rw [tj] at hQ
    unfold wpY_rca
    refine ya_st HP ?_
    rw [e]
    refine (br_f (by decide) (br_f (by decide) (br_f (by decide) (br_f (by decide) (br_t (by decide) (ya_ircC HP (ya_tlu HP (br_f (by decide) ?_))))))))
    unfold wY_rca_89
    exact (ya_fin0 HP (by decide) (hQ _ _ _ _))
  · have e : st p = 9 := es
    rw [e]
    refine (nm_e (br_f (by decide) (br_f (by decide) (br_f (by decide) (br_f (by decide) (br_f (by decide) (br_f (by decide) (br_f (by decide) (br_f (by decide) (br_f (by decide) (br_t (by decide) ⟨pv, ⟨pv, (nm_e (xa_scr HP ez hz8 ⟨pv, (nm_e ?_)⟩))⟩⟩)))))))))))
    have tj : ∀ t : Nat → Int32, pn_tj (upd st p 6) t p = t := fun t => pn_tj_on (by rw [pn_at]; decide) (by rw [pn_at]; decide)
    refine H _ _ _ _ _ _ _ _ _ _ _ _ _ _ _ _ _ _ _ _ _ _ _ _ _ _ _ _ _ _ ?_ (fun Q hQ => ?_)
    · rw [tj]; exact ⟨(pn_VS_u (n := 6) VS rfl (by decide) (fun j ej => by first | rfl | (rw [pn_ne _ _ ej]) | (rw [pn_ne _ _ ej, pn_ne _ _ ej])) (fun z => absurd z (by decide))), VO, (pn_VQ_a VQ hp), VN⟩
    rw [tj] at hQ
    unfold wpY_rca
    refine ya_st HP ?_
    rw [e]
    refine (br_f (by decide) (br_f (by decide) (br_f (by decide) (br_f (by decide) (br_f (by decide) (br_t (by decide) (ya_tld HP (ya_scr HP VO ez hz8 (fun _ => ?_)))))))))
    unfold wY_rca_89
    exact (ya_fin1 HP (by decide) (by decide) (hQ _ _ _ _))
theorem ev_ref (HP : pn_P P p) (V : pn_V st ti lo hi ic q no) (hM : ∀ f, f < 7 → ih f = M f) (hN : ∀ f, f < 7 → mg f = M f) (h2s : 2 ≤ st p) (hc4 : M 0 = 3 ∨ M 0 = 4) (H : pn_H post p ih mg (fun Q => wpY_rcn Q (C, T, F, K, pn_I st rs ti ni cr hc nk ms ei us dn sa fi, pn_O lo hi wa ic se lc rm, w, q, mg, ou, rp, ca, sg) P)) : wpX_onRefusal post (C, T, F, K, rc, st, rs, ti, ni, cr, hc, nk, ms, ei, us, dn, sa, fi, lo, hi, wa, ic, se, lc, rm, w, q, ih, vd, ro, no) P := by
  obtain ⟨VS, VO, VQ, VN⟩ := V
  have hp := pp_lt HP
  have pv := pp_v HP
  obtain ⟨s, hs9, es, ht⟩ := VS p hp
  obtain ⟨z, hz8, ez⟩ := VQ p hp
  obtain ⟨z2, hz82, ez2⟩ := (pn_VQ_a VQ hp) p hp
  have hs2 : 2 ≤ s := by
    rw [es] at h2s
    exact (nI_leI (a := 2) (by decide) (by omega)).mp h2s
  have m1 := hM 1 (by decide)
  have y1 := hN 1 (by decide)
  unfold wpX_onRefusal wX_onRefusal_52 wX_onRefusal_60
  refine ⟨pv, ?_⟩
  rw [pp_n HP]
  have hcase : s = 2 ∨ s = 3 ∨ s = 4 ∨ s = 5 ∨ s = 6 ∨ s = 7 ∨ s = 8 ∨ s = 9 := by omega
  rcases hcase with rfl | rfl | rfl | rfl | rfl | rfl | rfl | rfl
  · have e : st p = 2 := es
    rw [e]
    refine (nm_e (br_f (by decide) (br_f (by decide) (br_t (by decide) (xa_sta HP VN ez hz8 m1 ?_)))))
    have tj : ∀ t : Nat → Int32, pn_tj st t p = upd t p 0 := fun t => pn_tj_off (by rw [e]; decide)
    refine H _ _ _ _ _ _ _ _ _ _ _ _ _ _ _ _ _ _ _ _ _ _ _ _ _ _ _ _ _ _ ?_ (fun Q hQ => ?_)
    · rw [tj]; exact ⟨(pn_VS_k (n := 2) VS hp es (by decide) (fun j ej => by first | rfl | (rw [pn_ne _ _ ej]) | (rw [pn_ne _ _ ej, pn_ne _ _ ej])) (fun _ => pn_at _ _ _)), VO, (pn_VQ_a VQ hp), VN⟩
    rw [tj] at hQ
    unfold wpY_rcn
    refine ya_st HP ?_
    rw [e]
    refine (br_t (by decide) ?_)
    unfold wY_rcn_18
    refine (ya_sta HP ez hz8 y1 (fun _ => (br_f (by decide) (br_f (by decide) (br_f (by decide) (br_f (by decide) ?_))))))
    unfold wY_rcn_93
    exact (ya_fins0 HP e (by decide) (hQ _ _ _ _))
  · have e : st p = 3 := es
    rw [e]
    refine (nm_e (br_f (by decide) (br_f (by decide) (br_f (by decide) (br_t (by decide) (xa_sta HP VN ez hz8 m1 ?_))))))
    have tj : ∀ t : Nat → Int32, pn_tj st t p = upd t p 0 := fun t => pn_tj_off (by rw [e]; decide)
    refine H _ _ _ _ _ _ _ _ _ _ _ _ _ _ _ _ _ _ _ _ _ _ _ _ _ _ _ _ _ _ ?_ (fun Q hQ => ?_)
    · rw [tj]; exact ⟨(pn_VS_k (n := 3) VS hp es (by decide) (fun j ej => by first | rfl | (rw [pn_ne _ _ ej]) | (rw [pn_ne _ _ ej, pn_ne _ _ ej])) (fun _ => pn_at _ _ _)), VO, (pn_VQ_a VQ hp), VN⟩
    rw [tj] at hQ
    unfold wpY_rcn
    refine ya_st HP ?_
    rw [e]
    refine (br_f (by decide) (br_t (by decide) ?_))
    unfold wY_rcn_18
    refine (ya_sta HP ez hz8 y1 (fun _ => (br_f (by decide) (br_f (by decide) (br_f (by decide) (br_f (by decide) ?_))))))
    unfold wY_rcn_93
    exact (ya_fins0 HP e (by decide) (hQ _ _ _ _))
  · have e : st p = 4 := es
    rw [e]
    refine (nm_e (br_f (by decide) (br_f (by decide) (br_f (by decide) (br_f (by decide) (br_t (by decide) ?_))))))
    have tj : ∀ t : Nat → Int32, pn_tj st t p = t := fun t => pn_tj_on (by rw [e]; decide) (by rw [e]; decide)
    refine H _ _ _ _ _ _ _ _ _ _ _ _ _ _ _ _ _ _ _ _ _ _ _ _ _ _ _ _ _ _ ?_ (fun Q hQ => ?_)
    · rw [tj]; exact ⟨(pn_VS_k (n := 4) VS hp es (by decide) (fun j ej => by first | rfl | (rw [pn_ne _ _ ej]) | (rw [pn_ne _ _ ej, pn_ne _ _ ej])) (fun z => absurd z (by decide))), VO, VQ, VN⟩
    rw [tj] at hQ
    unfold wpY_rcn
    refine ya_st HP ?_
    rw [e]
    refine (br_f (by decide) (br_f (by decide) (br_f (by decide) (br_f (by decide) (br_f (by decide) (br_f (by decide) ?_))))))
    unfold wY_rcn_93
    exact (ya_fins1 HP e (by decide) (by decide) (hQ _ _ _ _))
  · have e : st p = 5 := es
    rw [e]
    refine (nm_e (br_f (by decide) (br_f (by decide) (br_f (by decide) (br_f (by decide) (br_f (by decide) (br_t (by decide) ?_)))))))
    have tj : ∀ t : Nat → Int32, pn_tj st t p = t := fun t => pn_tj_on (by rw [e]; decide) (by rw [e]; decide)
    refine H _ _ _ _ _ _ _ _ _ _ _ _ _ _ _ _ _ _ _ _ _ _ _ _ _ _ _ _ _ _ ?_ (fun Q hQ => ?_)
    · rw [tj]; exact ⟨(pn_VS_k (n := 5) VS hp es (by decide) (fun j ej => by first | rfl | (rw [pn_ne _ _ ej]) | (rw [pn_ne _ _ ej, pn_ne _ _ ej])) (fun z => absurd z (by decide))), VO, VQ, VN⟩
    rw [tj] at hQ
    unfold wpY_rcn
    refine ya_st HP ?_
    rw [e]
    refine (br_f (by decide) (br_f (by decide) (br_f (by decide) (br_f (by decide) (br_f (by decide) (br_f (by decide) ?_))))))
    unfold wY_rcn_93
    exact (ya_fins1 HP e (by decide) (by decide) (hQ _ _ _ _))
  · have e : st p = 6 := es
    rw [e]
    refine (nm_e (br_f (by decide) (br_f (by decide) (br_f (by decide) (br_f (by decide) (br_f (by decide) (br_f (by decide) (br_t (by decide) (xa_adopt HP hM ⟨pv, (nm_e (xa_scr HP ez hz8 ?_))⟩)))))))))
    have tj : ∀ t : Nat → Int32, pn_tj st t p = t := fun t => pn_tj_on (by rw [e]; decide) (by rw [e]; decide)
    refine H _ _ _ _ _ _ _ _ _ _ _ _ _ _ _ _ _ _ _ _ _ _ _ _ _ _ _ _ _ _ ?_ (fun Q hQ => ?_)
    · rw [tj]; exact ⟨(pn_VS_k (n := 6) VS hp es (by decide) (fun j ej => by first | rfl | (rw [pn_ne _ _ ej]) | (rw [pn_ne _ _ ej, pn_ne _ _ ej])) (fun z => absurd z (by decide))), (pn_VO_aI VO hp), (pn_VQ_a VQ hp), VN⟩
    rw [tj] at hQ
    unfold wpY_rcn
    refine ya_st HP ?_
    rw [e]
    refine (br_f (by decide) (br_f (by decide) (br_t (by decide) ?_)))
    unfold wY_rcn_35
    refine (ya_adopt HP hN hc4 (ya_ircC HP (ya_scr HP (pn_VO_aI VO hp) ez hz8 (fun _ => (br_f (by decide) (br_f (by decide) ?_))))))
    unfold wY_rcn_93
    exact (ya_fins1 HP e (by decide) (by decide) (hQ _ _ _ _))
  · have e : st p = 7 := es
    rw [e]
    refine (nm_e (br_f (by decide) (br_f (by decide) (br_f (by decide) (br_f (by decide) (br_f (by decide) (br_f (by decide) (br_f (by decide) (br_t (by decide) (xa_adopt HP hM (xa_scr HP ez hz8 ⟨pv, (nm_e ?_)⟩)))))))))))
    have tj : ∀ t : Nat → Int32, pn_tj (upd st p 6) t p = t := fun t => pn_tj_on (by rw [pn_at]; decide) (by rw [pn_at]; decide)
    refine H _ _ _ _ _ _ _ _ _ _ _ _ _ _ _ _ _ _ _ _ _ _ _ _ _ _ _ _ _ _ ?_ (fun Q hQ => ?_)
    · rw [tj]; exact ⟨(pn_VS_u (n := 6) VS rfl (by decide) (fun j ej => by first | rfl | (rw [pn_ne _ _ ej]) | (rw [pn_ne _ _ ej, pn_ne _ _ ej])) (fun z => absurd z (by decide))), (pn_VO_aI VO hp), (pn_VQ_a VQ hp), VN⟩
    rw [tj] at hQ
    unfold wpY_rcn
    refine ya_st HP ?_
    rw [e]
    refine (br_f (by decide) (br_f (by decide) (br_f (by decide) (br_f (by decide) (br_t (by decide) (ya_adopt HP hN hc4 (ya_scr HP (pn_VO_aI VO hp) ez hz8 (fun _ => (br_f (by decide) ?_)))))))))
    unfold wY_rcn_93
    exact (ya_fin1 HP (by decide) (by decide) (hQ _ _ _ _))
  · have e : st p = 8 := es
    rw [e]
    refine (nm_e (br_f (by decide) (br_f (by decide) (br_f (by decide) (br_f (by decide) (br_f (by decide) (br_f (by decide) (br_f (by decide) (br_f (by decide) (br_t (by decide) (xa_adopt HP hM ⟨pv, (nm_e (xa_scr HP ez hz8 ?_))⟩)))))))))))
    have tj : ∀ t : Nat → Int32, pn_tj st t p = t := fun t => pn_tj_on (by rw [e]; decide) (by rw [e]; decide)
    refine H _ _ _ _ _ _ _ _ _ _ _ _ _ _ _ _ _ _ _ _ _ _ _ _ _ _ _ _ _ _ ?_ (fun Q hQ => ?_)
    · rw [tj]; exact ⟨(pn_VS_k (n := 8) VS hp es (by decide) (fun j ej => by first | rfl | (rw [pn_ne _ _ ej]) | (rw [pn_ne _ _ ej, pn_ne _ _ ej])) (fun z => absurd z (by decide))), (pn_VO_aI VO hp), (pn_VQ_a VQ hp), VN⟩
    rw [tj] at hQ
    unfold wpY_rcn
    refine ya_st HP ?_
    rw [e]
    refine (br_f (by decide) (br_f (by decide) (br_f (by decide) (br_t (by decide) ?_))))
    unfold wY_rcn_35
    refine (ya_adopt HP hN hc4 (ya_ircC HP (ya_scr HP (pn_VO_aI VO hp) ez hz8 (fun _ => (br_f (by decide) (br_f (by decide) ?_))))))
    unfold wY_rcn_93
    exact (ya_fins1 HP e (by decide) (by decide) (hQ _ _ _ _))
  · have e : st p = 9 := es
    rw [e]
    refine (nm_e (br_f (by decide) (br_f (by decide) (br_f (by decide) (br_f (by decide) (br_f (by decide) (br_f (by decide) (br_f (by decide) (br_f (by decide) (br_f (by decide) (br_t (by decide) (xa_adopt HP hM ⟨pv, ⟨pv, (nm_e (xa_scr HP ez hz8 ⟨pv, (nm_e ?_)⟩))⟩⟩))))))))))))
    have tj : ∀ t : Nat → Int32, pn_tj (upd st p 6) t p = t := fun t => pn_tj_on (by rw [pn_at]; decide) (by rw [pn_at]; decide)
    refine H _ _ _ _ _ _ _ _ _ _ _ _ _ _ _ _ _ _ _ _ _ _ _ _ _ _ _ _ _ _ ?_ (fun Q hQ => ?_)
    · rw [tj]; exact ⟨(pn_VS_u (n := 6) VS rfl (by decide) (fun j ej => by first | rfl | (rw [pn_ne _ _ ej]) | (rw [pn_ne _ _ ej, pn_ne _ _ ej])) (fun z => absurd z (by decide))), (pn_VO_aI VO hp), (pn_VQ_a VQ hp), VN⟩
    rw [tj] at hQ
    unfold wpY_rcn
    refine ya_st HP ?_
    rw [e]
    refine (br_f (by decide) (br_f (by decide) (br_f (by decide) (br_f (by decide) (br_f (by decide) (br_t (by decide) (ya_adopt HP hN hc4 (ya_tld HP (ya_scr HP (pn_VO_aI VO hp) ez hz8 (fun _ => ?_))))))))))
    unfold wY_rcn_93
    exact (ya_fin1 HP (by decide) (by decide) (hQ _ _ _ _))
theorem ev_rtr (HP : pn_P P p) (V : pn_V st ti lo hi ic q no) (hM : ∀ f, f < 7 → ih f = M f) (hN : ∀ f, f < 7 → mg f = M f) (h2s : 2 ≤ st p) (H : pn_H post p ih mg (fun Q => wpY_rtr Q (C, T, F, K, pn_I st rs ti ni cr hc nk ms ei us dn sa fi, pn_O lo hi wa ic se lc rm, w, q, mg, ou, rp, ca, sg) P)) : wpX_onTerminateRequest post (C, T, F, K, rc, st, rs, ti, ni, cr, hc, nk, ms, ei, us, dn, sa, fi, lo, hi, wa, ic, se, lc, rm, w, q, ih, vd, ro, no) P := by
  obtain ⟨VS, VO, VQ, VN⟩ := V
  have hp := pp_lt HP
  have pv := pp_v HP
  obtain ⟨s, hs9, es, ht⟩ := VS p hp
  obtain ⟨z, hz8, ez⟩ := VQ p hp
  obtain ⟨z2, hz82, ez2⟩ := (pn_VQ_a VQ hp) p hp
  have hs2 : 2 ≤ s := by
    rw [es] at h2s
    exact (nI_leI (a := 2) (by decide) (by omega)).mp h2s
  have m1 := hM 1 (by decide)
  have y1 := hN 1 (by decide)
  unfold wpX_onTerminateRequest wX_onTerminateRequest_70 wX_onTerminateRequest_78
  refine ⟨pv, ?_⟩
  rw [pp_n HP]
  have hcase : s = 2 ∨ s = 3 ∨ s = 4 ∨ s = 5 ∨ s = 6 ∨ s = 7 ∨ s = 8 ∨ s = 9 := by omega
  rcases hcase with rfl | rfl | rfl | rfl | rfl | rfl | rfl | rfl
  · have e : st p = 2 := es
    rw [e]
    refine (br_f (by decide) ⟨pv, (br_f (by decide) ⟨pv, (br_f (by decide) (xa_sta HP VN ez hz8 m1 ?_))⟩)⟩)
    have tj : ∀ t : Nat → Int32, pn_tj st t p = upd t p 0 := fun t => pn_tj_off (by rw [e]; decide)
    refine H _ _ _ _ _ _ _ _ _ _ _ _ _ _ _ _ _ _ _ _ _ _ _ _ _ _ _ _ _ _ ?_ (fun Q hQ => ?_)
    · rw [tj]; exact ⟨(pn_VS_k (n := 2) VS hp es (by decide) (fun j ej => by first | rfl | (rw [pn_ne _ _ ej]) | (rw [pn_ne _ _ ej, pn_ne _ _ ej])) (fun _ => pn_at _ _ _)), VO, (pn_VQ_a VQ hp), VN⟩
    rw [tj] at hQ
    unfold wpY_rtr
    refine ya_st HP ?_
    rw [e]
    refine (br_f (by decide) (br_f (by decide) (ya_sta HP ez hz8 y1 (fun _ => (br_f (by decide) (br_f (by decide) (br_f (by decide) ?_)))))))
    unfold wY_rtr_62
    exact (ya_fins0 HP e (by decide) (hQ _ _ _ _))
  · have e : st p = 3 := es
    rw [e]
    refine (br_f (by decide) ⟨pv, (br_f (by decide) ⟨pv, (br_f (by decide) (xa_sta HP VN ez hz8 m1 ?_))⟩)⟩)
    have tj : ∀ t : Nat → Int32, pn_tj st t p = upd t p 0 := fun t => pn_tj_off (by rw [e]; decide)
    refine H _ _ _ _ _ _ _ _ _ _ _ _ _ _ _ _ _ _ _ _ _ _ _ _ _ _ _ _ _ _ ?_ (fun Q hQ => ?_)
    · rw [tj]; exact ⟨(pn_VS_k (n := 3) VS hp es (by decide) (fun j ej => by first | rfl | (rw [pn_ne _ _ ej]) | (rw [pn_ne _ _ ej, pn_ne _ _ ej])) (fun _ => pn_at _ _ _)), VO, (pn_VQ_a VQ hp), VN⟩
    rw [tj] at hQ
    unfold wpY_rtr
    refine ya_st HP ?_
    rw [e]
    refine (br_f (by decide) (br_f (by decide) (ya_sta HP ez hz8 y1 (fun _ => (br_f (by decide) (br_f (by decide) (br_f (by decide) ?_)))))))
    unfold wY_rtr_62
    exact (ya_fins0 HP e (by decide) (hQ _ _ _ _))
  · have e : st p = 4 := es
    rw [e]
    refine (br_f (by decide) ⟨pv, (br_f (by decide) ⟨pv, (br_f (by decide) (xa_sta HP VN ez hz8 m1 ?_))⟩)⟩)
    have tj : ∀ t : Nat → Int32, pn_tj st t p = t := fun t => pn_tj_on (by rw [e]; decide) (by rw [e]; decide)
    refine H _ _ _ _ _ _ _ _ _ _ _ _ _ _ _ _ _ _ _ _ _ _ _ _ _ _ _ _ _ _ ?_ (fun Q hQ => ?_)
    · rw [tj]; exact ⟨(pn_VS_k (n := 4) VS hp es (by decide) (fun j ej => by first | rfl | (rw [pn_ne _ _ ej]) | (rw [pn_ne _ _ ej, pn_ne _ _ ej])) (fun z => absurd z (by decide))), VO, (pn_VQ_a VQ hp), VN⟩
    rw [tj] at hQ
    unfold wpY_rtr
    refine ya_st HP ?_
    rw [e]
    refine (br_f (by decide) (br_f (by decide) (ya_sta HP ez hz8 y1 (fun _ => (br_f (by decide) (br_f (by decide) (br_f (by decide) ?_)))))))
    unfold wY_rtr_62
    exact (ya_fins1 HP e (by decide) (by decide) (hQ _ _ _ _))
  · have e : st p = 5 := es
    rw [e]
    refine (br_f (by decide) ⟨pv, (br_f (by decide) ⟨pv, (br_f (by decide) (xa_sta HP VN ez hz8 m1 ?_))⟩)⟩)
    have tj : ∀ t : Nat → Int32, pn_tj st t p = t := fun t => pn_tj_on (by rw [e]; decide) (by rw [e]; decide)
    refine H _ _ _ _ _ _ _ _ _ _ _ _ _ _ _ _ _ _ _ _ _ _ _ _ _ _ _ _ _ _ ?_ (fun Q hQ => ?_)
    · rw [tj]; exact ⟨(pn_VS_k (n := 5) VS hp es (by decide) (fun j ej => by first | rfl | (rw [pn_ne _ _ ej]) | (rw [pn_ne _ _ ej, pn_ne _ _ ej])) (fun z => absurd z (by decide))), VO, (pn_VQ_a VQ hp), VN⟩
    rw [tj] at hQ
    unfold wpY_rtr
    refine ya_st HP ?_
    rw [e]
    refine (br_f (by decide) (br_f (by decide) (ya_sta HP ez hz8 y1 (fun _ => (br_f (by decide) (br_f (by decide) (br_f (by decide) ?_)))))))
    unfold wY_rtr_62
    exact (ya_fins1 HP e (by decide) (by decide) (hQ _ _ _ _))
  · have e : st p = 6 := es
    rw [e]
    refine (br_f (by decide) ⟨pv, (br_f (by decide) ⟨pv, (br_f (by decide) (xa_sta HP VN ez hz8 m1 ?_))⟩)⟩)
    have tj : ∀ t : Nat → Int32, pn_tj st t p = t := fun t => pn_tj_on (by rw [e]; decide) (by rw [e]; decide)
    refine H _ _ _ _ _ _ _ _ _ _ _ _ _ _ _ _ _ _ _ _ _ _ _ _ _ _ _ _ _ _ ?_ (fun Q hQ => ?_)
    · rw [tj]; exact ⟨(pn_VS_k (n := 6) VS hp es (by decide) (fun j ej => by first | rfl | (rw [pn_ne _ _ ej]) | (rw [pn_ne _ _ ej, pn_ne _ _ ej])) (fun z => absurd z (by decide))), VO, (pn_VQ_a VQ hp), VN⟩
    rw [tj] at hQ
    unfold wpY_rtr
    refine ya_st HP ?_
    rw [e]
    refine (br_f (by decide) (br_f (by decide) (ya_sta HP ez hz8 y1 (fun _ => (br_f (by decide) (br_f (by decide) (br_f (by decide) ?_)))))))
    unfold wY_rtr_62
    exact (ya_fins1 HP e (by decide) (by decide) (hQ _ _ _ _))
  · have e : st p = 7 := es
    rw [e]
    refine (br_f (by decide) ⟨pv, (br_t (by decide) ⟨pv, (nm_e (xa_sta HP VN ez hz8 m1 ?_))⟩)⟩)
    have tj : ∀ t : Nat → Int32, pn_tj (upd st p 6) t p = t := fun t => pn_tj_on (by rw [pn_at]; decide) (by rw [pn_at]; decide)
    refine H _ _ _ _ _ _ _ _ _ _ _ _ _ _ _ _ _ _ _ _ _ _ _ _ _ _ _ _ _ _ ?_ (fun Q hQ => ?_)
    · rw [tj]; exact ⟨(pn_VS_u (n := 6) VS rfl (by decide) (fun j ej => by first | rfl | (rw [pn_ne _ _ ej]) | (rw [pn_ne _ _ ej, pn_ne _ _ ej])) (fun z => absurd z (by decide))), VO, (pn_VQ_a VQ hp), VN⟩
    rw [tj] at hQ
    unfold wpY_rtr
    refine ya_st HP ?_
    rw [e]
    refine (br_f (by decide) (br_f (by decide) (ya_sta HP ez hz8 y1 (fun _ => (br_t (by decide) ?_)))))
    unfold wY_rtr_36
    refine (br_f (by decide) ?_)
    unfold wY_rtr_62
    exact (ya_fin1 HP (by decide) (by decide) (hQ _ _ _ _))
  · have e : st p = 8 := es
    rw [e]
    refine (br_f (by decide) ⟨pv, (br_f (by decide) ⟨pv, (br_t (by decide) ⟨pv, (nm_e (xa_sta HP VN ez hz8 m1 ?_))⟩)⟩)⟩)
    have tj : ∀ t : Nat → Int32, pn_tj (upd st p 6) t p = t := fun t => pn_tj_on (by rw [pn_at]; decide) (by rw [pn_at]; decide)
    refine H _ _ _ _ _ _ _ _ _ _ _ _ _ _ _ _ _ _ _ _ _ _ _ _ _ _ _ _ _ _ ?_ (fun Q hQ => ?_)
    · rw [tj]; exact ⟨(pn_VS_u (n := 6) VS rfl (by decide) (fun j ej => by first | rfl | (rw [pn_ne _ _ ej]) | (rw [pn_ne _ _ ej, pn_ne _ _ ej])) (fun z => absurd z (by decide))), VO, (pn_VQ_a VQ hp), VN⟩
    rw [tj] at hQ
    unfold wpY_rtr
    refine ya_st HP ?_
    rw [e]
    refine (br_f (by decide) (br_f (by decide) (ya_sta HP ez hz8 y1 (fun _ => (br_f (by decide) (br_t (by decide) ?_))))))
    unfold wY_rtr_36
    refine (br_f (by decide) ?_)
    unfold wY_rtr_62
    exact (ya_fin1 HP (by decide) (by decide) (hQ _ _ _ _))
  · have e : st p = 9 := es
    rw [e]
    refine (br_t (by decide) ⟨pv, ⟨pv, (nm_e ⟨pv, (nm_e ⟨pv, (nm_e ⟨pv, (nm_e (xa_sta HP VN ez hz8 m1 ?_))⟩)⟩)⟩)⟩⟩)
    have tj : ∀ t : Nat → Int32, pn_tj (upd st p 5) t p = t := fun t => pn_tj_on (by rw [pn_at]; decide) (by rw [pn_at]; decide)
    refine H _ _ _ _ _ _ _ _ _ _ _ _ _ _ _ _ _ _ _ _ _ _ _ _ _ _ _ _ _ _ ?_ (fun Q hQ => ?_)
    · rw [tj]; exact ⟨(pn_VS_u (n := 5) VS rfl (by decide) (fun j ej => by first | rfl | (rw [pn_ne _ _ ej]) | (rw [pn_ne _ _ ej, pn_ne _ _ ej])) (fun z => absurd z (by decide))), VO, (pn_VQ_a VQ hp), VN⟩
    rw [tj] at hQ
    unfold wpY_rtr
    refine ya_st HP ?_
    rw [e]
    refine (br_f (by decide) (br_t (by decide) (br_f (by decide) (br_f (by decide) (br_t (by decide) (ya_tld HP (ya_zrc HP (ya_sta HP ez hz8 y1 (fun _ => ?_)))))))))
    unfold wY_rtr_62
    exact (ya_fin1 HP (by decide) (by decide) (hQ _ _ _ _))
theorem ev_rta (HP : pn_P P p) (V : pn_V st ti lo hi ic q no) (hM : ∀ f, f < 7 → ih f = M f) (hN : ∀ f, f < 7 → mg f = M f) (h2s : 2 ≤ st p) (H : pn_H post p ih mg (fun Q => wpY_rta Q (C, T, F, K, pn_I st rs ti ni cr hc nk ms ei us dn sa fi, pn_O lo hi wa ic se lc rm, w, q, mg, ou, rp, ca, sg) P)) : wpX_onTerminateAck post (C, T, F, K, rc, st, rs, ti, ni, cr, hc, nk, ms, ei, us, dn, sa, fi, lo, hi, wa, ic, se, lc, rm, w, q, ih, vd, ro, no) P := by
  obtain ⟨VS, VO, VQ, VN⟩ := V
  have hp := pp_lt HP
  have pv := pp_v HP
  obtain ⟨s, hs9, es, ht⟩ := VS p hp
  obtain ⟨z, hz8, ez⟩ := VQ p hp
  obtain ⟨z2, hz82, ez2⟩ := (pn_VQ_a VQ hp) p hp
  have hs2 : 2 ≤ s := by
    rw [es] at h2s
    exact (nI_leI (a := 2) (by decide) (by omega)).mp h2s
  have m1 := hM 1 (by decide)
  have y1 := hN 1 (by decide)
  unfold wpX_onTerminateAck wX_onTerminateAck_44
  refine ⟨pv, ?_⟩
  rw [pp_n HP]
  have hcase : s = 2 ∨ s = 3 ∨ s = 4 ∨ s = 5 ∨ s = 6 ∨ s = 7 ∨ s = 8 ∨ s = 9 := by omega
  rcases hcase with rfl | rfl | rfl | rfl | rfl | rfl | rfl | rfl
  · have e : st p = 2 := es
    rw [e]
    refine (nm_e (br_t (by decide) ?_))
    have tj : ∀ t : Nat → Int32, pn_tj st t p = upd t p 0 := fun t => pn_tj_off (by rw [e]; decide)
    refine H _ _ _ _ _ _ _ _ _ _ _ _ _ _ _ _ _ _ _ _ _ _ _ _ _ _ _ _ _ _ ?_ (fun Q hQ => ?_)
    · rw [tj]; exact ⟨(pn_VS_k (n := 2) VS hp es (by decide) (fun j ej => by first | rfl | (rw [pn_ne _ _ ej]) | (rw [pn_ne _ _ ej, pn_ne _ _ ej])) (fun _ => pn_at _ _ _)), VO, VQ, VN⟩
    rw [tj] at hQ
    unfold wpY_rta
    refine ya_st HP ?_
    rw [e]
    refine (br_f (by decide) (br_f (by decide) (br_f (by decide) (br_f (by decide) ?_))))
    unfold wY_rta_60
    exact (ya_fins0 HP e (by decide) (hQ _ _ _ _))
  · have e : st p = 3 := es
    rw [e]
    refine (nm_e (br_t (by decide) ?_))
    have tj : ∀ t : Nat → Int32, pn_tj st t p = upd t p 0 := fun t => pn_tj_off (by rw [e]; decide)
    refine H _ _ _ _ _ _ _ _ _ _ _ _ _ _ _ _ _ _ _ _ _ _ _ _ _ _ _ _ _ _ ?_ (fun Q hQ => ?_)
    · rw [tj]; exact ⟨(pn_VS_k (n := 3) VS hp es (by decide) (fun j ej => by first | rfl | (rw [pn_ne _ _ ej]) | (rw [pn_ne _ _ ej, pn_ne _ _ ej])) (fun _ => pn_at _ _ _)), VO, VQ, VN⟩
    rw [tj] at hQ
    unfold wpY_rta
    refine ya_st HP ?_
    rw [e]
    refine (br_f (by decide) (br_f (by decide) (br_f (by decide) (br_f (by decide) ?_))))
    unfold wY_rta_60
    exact (ya_fins0 HP e (by decide) (hQ _ _ _ _))
  · have e : st p = 4 := es
    rw [e]
    refine (nm_e (br_f (by decide) (br_f (by decide) (br_t (by decide) (xa_fin4 HP e ?_)))))
    have tj : ∀ t : Nat → Int32, pn_tj (upd st p 2) t p = upd t p 0 := fun t => pn_tj_off (by rw [pn_at]; decide)
    refine H _ _ _ _ _ _ _ _ _ _ _ _ _ _ _ _ _ _ _ _ _ _ _ _ _ _ _ _ _ _ ?_ (fun Q hQ => ?_)
    · rw [tj]; exact ⟨(pn_VS_u (n := 2) VS rfl (by decide) (fun j ej => by first | rfl | (rw [pn_ne _ _ ej]) | (rw [pn_ne _ _ ej, pn_ne _ _ ej])) (fun _ => pn_at _ _ _)), VO, VQ, VN⟩
    rw [tj] at hQ
    unfold wpY_rta
    refine ya_st HP ?_
    rw [e]
    refine (br_t (by decide) (ya_tlf HP (br_f (by decide) (br_f (by decide) (br_f (by decide) ?_)))))
    unfold wY_rta_60
    exact (ya_fin0 HP (by decide) (hQ _ _ _ _))
  · have e : st p = 5 := es
    rw [e]
    refine (nm_e (br_f (by decide) (br_f (by decide) (br_f (by decide) (br_t (by decide) (xa_fingt HP (by rw [e]; decide) (by rw [e]; decide) ?_))))))
    have tj : ∀ t : Nat → Int32, pn_tj (upd st p 3) t p = upd t p 0 := fun t => pn_tj_off (by rw [pn_at]; decide)
    refine H _ _ _ _ _ _ _ _ _ _ _ _ _ _ _ _ _ _ _ _ _ _ _ _ _ _ _ _ _ _ ?_ (fun Q hQ => ?_)
    · rw [tj]; exact ⟨(pn_VS_u (n := 3) VS rfl (by decide) (fun j ej => by first | rfl | (rw [pn_ne _ _ ej]) | (rw [pn_ne _ _ ej, pn_ne _ _ ej])) (fun _ => pn_at _ _ _)), VO, VQ, VN⟩
    rw [tj] at hQ
    unfold wpY_rta
    refine ya_st HP ?_
    rw [e]
    refine (br_f (by decide) (br_t (by decide) (ya_tlf HP (br_f (by decide) (br_f (by decide) ?_)))))
    unfold wY_rta_60
    exact (ya_fin0 HP (by decide) (hQ _ _ _ _))
  · have e : st p = 6 := es
    rw [e]
    refine (nm_e (br_f (by decide) (br_f (by decide) (br_f (by decide) (br_f (by decide) (br_t (by decide) ?_))))))
    have tj : ∀ t : Nat → Int32, pn_tj st t p = t := fun t => pn_tj_on (by rw [e]; decide) (by rw [e]; decide)
    refine H _ _ _ _ _ _ _ _ _ _ _ _ _ _ _ _ _ _ _ _ _ _ _ _ _ _ _ _ _ _ ?_ (fun Q hQ => ?_)
    · rw [tj]; exact ⟨(pn_VS_k (n := 6) VS hp es (by decide) (fun j ej => by first | rfl | (rw [pn_ne _ _ ej]) | (rw [pn_ne _ _ ej, pn_ne _ _ ej])) (fun z => absurd z (by decide))), VO, VQ, VN⟩
    rw [tj] at hQ
    unfold wpY_rta
    refine ya_st HP ?_
    rw [e]
    refine (br_f (by decide) (br_f (by decide) (br_f (by decide) (br_f (by decide) ?_))))
    unfold wY_rta_60
    exact (ya_fins1 HP e (by decide) (by decide) (hQ _ _ _ _))
  · have e : st p = 7 := es
    rw [e]
    refine (nm_e (br_f (by decide) (br_f (by decide) (br_f (by decide) (br_f (by decide) (br_f (by decide) (br_t (by decide) ⟨pv, (nm_e ?_)⟩)))))))
    have tj : ∀ t : Nat → Int32, pn_tj (upd st p 6) t p = t := fun t => pn_tj_on (by rw [pn_at]; decide) (by rw [pn_at]; decide)
    refine H _ _ _ _ _ _ _ _ _ _ _ _ _ _ _ _ _ _ _ _ _ _ _ _ _ _ _ _ _ _ ?_ (fun Q hQ => ?_)
    · rw [tj]; exact ⟨(pn_VS_u (n := 6) VS rfl (by decide) (fun j ej => by first | rfl | (rw [pn_ne _ _ ej]) | (rw [pn_ne _ _ ej, pn_ne _ _ ej])) (fun z => absurd z (by decide))), VO, VQ, VN⟩
    rw [tj] at hQ
    unfold wpY_rta
    refine ya_st HP ?_
    rw [e]
    refine (br_f (by decide) (br_f (by decide) (br_t (by decide) (br_f (by decide) ?_))))
    unfold wY_rta_60
    exact (ya_fin1 HP (by decide) (by decide) (hQ _ _ _ _))
  · have e : st p = 8 := es
    rw [e]
    refine (nm_e (br_f (by decide) (br_f (by decide) (br_f (by decide) (br_f (by decide) (br_f (by decide) (br_f (by decide) (br_t (by decide) ?_))))))))
    have tj : ∀ t : Nat → Int32, pn_tj st t p = t := fun t => pn_tj_on (by rw [e]; decide) (by rw [e]; decide)
    refine H _ _ _ _ _ _ _ _ _ _ _ _ _ _ _ _ _ _ _ _ _ _ _ _ _ _ _ _ _ _ ?_ (fun Q hQ => ?_)
    · rw [tj]; exact ⟨(pn_VS_k (n := 8) VS hp es (by decide) (fun j ej => by first | rfl | (rw [pn_ne _ _ ej]) | (rw [pn_ne _ _ ej, pn_ne _ _ ej])) (fun z => absurd z (by decide))), VO, VQ, VN⟩
    rw [tj] at hQ
    unfold wpY_rta
    refine ya_st HP ?_
    rw [e]
    refine (br_f (by decide) (br_f (by decide) (br_f (by decide) (br_f (by decide) ?_))))
    unfold wY_rta_60
    exact (ya_fins1 HP e (by decide) (by decide) (hQ _ _ _ _))
  · have e : st p = 9 := es
    rw [e]
    refine (nm_e (br_f (by decide) (br_f (by decide) (br_f (by decide) (br_f (by decide) (br_f (by decide) (br_f (by decide) (br_f (by decide) (br_t (by decide) ⟨pv, ⟨pv, (nm_e (xa_scr HP ez hz8 ⟨pv, (nm_e ?_)⟩))⟩⟩)))))))))
    have tj : ∀ t : Nat → Int32, pn_tj (upd st p 6) t p = t := fun t => pn_tj_on (by rw [pn_at]; decide) (by rw [pn_at]; decide)
    refine H _ _ _ _ _ _ _ _ _ _ _ _ _ _ _ _ _ _ _ _ _ _ _ _ _ _ _ _ _ _ ?_ (fun Q hQ => ?_)
    · rw [tj]; exact ⟨(pn_VS_u (n := 6) VS rfl (by decide) (fun j ej => by first | rfl | (rw [pn_ne _ _ ej]) | (rw [pn_ne _ _ ej, pn_ne _ _ ej])) (fun z => absurd z (by decide))), VO, (pn_VQ_a VQ hp), VN⟩
    rw [tj] at hQ
    unfold wpY_rta
    refine ya_st HP ?_
    rw [e]
    refine (br_f (by decide) (br_f (by decide) (br_f (by decide) (br_t (by decide) (ya_tld HP (ya_scr HP VO ez hz8 (fun _ => ?_)))))))
    unfold wY_rta_60
    exact (ya_fin1 HP (by decide) (by decide) (hQ _ _ _ _))
theorem ev_rxj (HP : pn_P P p) (V : pn_V st ti lo hi ic q no) (hM : ∀ f, f < 7 → ih f = M f) (hN : ∀ f, f < 7 → mg f = M f) (h2s : 2 ≤ st p) (b1 : ¬ M 2 < 1) (b7 : M 2 ≤ 7) (H : pn_H post p ih mg (fun Q => wpY_rxjMinus Q (C, T, F, K, pn_I st rs ti ni cr hc nk ms ei us dn sa fi, pn_O lo hi wa ic se lc rm, w, q, mg, ou, rp, ca, sg) P)) : wpX_onCodeReject post (C, T, F, K, rc, st, rs, ti, ni, cr, hc, nk, ms, ei, us, dn, sa, fi, lo, hi, wa, ic, se, lc, rm, w, q, ih, vd, ro, no) P := by
  obtain ⟨VS, VO, VQ, VN⟩ := V
  have hp := pp_lt HP
  have pv := pp_v HP
  obtain ⟨s, hs9, es, ht⟩ := VS p hp
  obtain ⟨z, hz8, ez⟩ := VQ p hp
  obtain ⟨z2, hz82, ez2⟩ := (pn_VQ_a VQ hp) p hp
  have hs2 : 2 ≤ s := by
    rw [es] at h2s
    exact (nI_leI (a := 2) (by decide) (by omega)).mp h2s
  have m1 := hM 1 (by decide)
  have y1 := hN 1 (by decide)
  have m2 := hM 2 (by decide)
  rw [← m2] at b1 b7
  unfold wpX_onCodeReject
  refine nm_e ?_
  rw [pp_n HP]
  have hcase : s = 2 ∨ s = 3 ∨ s = 4 ∨ s = 5 ∨ s = 6 ∨ s = 7 ∨ s = 8 ∨ s = 9 := by omega
  rcases hcase with rfl | rfl | rfl | rfl | rfl | rfl | rfl | rfl
  · have e : st p = 2 := es
    rw [e]
    refine (br_f b1 (br_t b7 ⟨pv, (br_f (by decide) (xa_finle HP (by rw [e]; decide) (by rw [e]; decide) ?_))⟩))
    have tj : ∀ t : Nat → Int32, pn_tj st t p = upd t p 0 := fun t => pn_tj_off (by rw [e]; decide)
    refine H _ _ _ _ _ _ _ _ _ _ _ _ _ _ _ _ _ _ _ _ _ _ _ _ _ _ _ _ _ _ ?_ (fun Q hQ => ?_)
    · rw [tj]; exact ⟨(pn_VS_k (n := 2) VS hp es (by decide) (fun j ej => by first | rfl | (rw [pn_ne _ _ ej]) | (rw [pn_ne _ _ ej, pn_ne _ _ ej])) (fun _ => pn_at _ _ _)), VO, VQ, VN⟩
    rw [tj] at hQ
    unfold wpY_rxjMinus
    refine ya_st HP ?_
    rw [e]
    refine (br_f (by decide) (br_f (by decide) (ya_tlf HP (br_f (by decide) (br_t (by decide) (br_f (by decide) ?_))))))
    unfold wY_rxjMinus_67
    exact (ya_fins0 HP e (by decide) (hQ _ _ _ _))
  · have e : st p = 3 := es
    rw [e]
    refine (br_f b1 (br_t b7 ⟨pv, (br_f (by decide) (xa_finle HP (by rw [e]; decide) (by rw [e]; decide) ?_))⟩))
    have tj : ∀ t : Nat → Int32, pn_tj st t p = upd t p 0 := fun t => pn_tj_off (by rw [e]; decide)
    refine H _ _ _ _ _ _ _ _ _ _ _ _ _ _ _ _ _ _ _ _ _ _ _ _ _ _ _ _ _ _ ?_ (fun Q hQ => ?_)
    · rw [tj]; exact ⟨(pn_VS_k (n := 3) VS hp es (by decide) (fun j ej => by first | rfl | (rw [pn_ne _ _ ej]) | (rw [pn_ne _ _ ej, pn_ne _ _ ej])) (fun _ => pn_at _ _ _)), VO, VQ, VN⟩
    rw [tj] at hQ
    unfold wpY_rxjMinus
    refine ya_st HP ?_
    rw [e]
    refine (br_f (by decide) (br_f (by decide) (ya_tlf HP (br_f (by decide) (br_t (by decide) (br_f (by decide) ?_))))))
    unfold wY_rxjMinus_67
    exact (ya_fins0 HP e (by decide) (hQ _ _ _ _))
  · have e : st p = 4 := es
    rw [e]
    refine (br_f b1 (br_t b7 ⟨pv, (br_f (by decide) (xa_fin4 HP e ?_))⟩))
    have tj : ∀ t : Nat → Int32, pn_tj (upd st p 2) t p = upd t p 0 := fun t => pn_tj_off (by rw [pn_at]; decide)
    refine H _ _ _ _ _ _ _ _ _ _ _ _ _ _ _ _ _ _ _ _ _ _ _ _ _ _ _ _ _ _ ?_ (fun Q hQ => ?_)
    · rw [tj]; exact ⟨(pn_VS_u (n := 2) VS rfl (by decide) (fun j ej => by first | rfl | (rw [pn_ne _ _ ej]) | (rw [pn_ne _ _ ej, pn_ne _ _ ej])) (fun _ => pn_at _ _ _)), VO, VQ, VN⟩
    rw [tj] at hQ
    unfold wpY_rxjMinus
    refine ya_st HP ?_
    rw [e]
    refine (br_f (by decide) (br_f (by decide) (ya_tlf HP (br_t (by decide) (br_t (by decide) (br_f (by decide) ?_))))))
    unfold wY_rxjMinus_67
    exact (ya_fin0 HP (by decide) (hQ _ _ _ _))
  · have e : st p = 5 := es
    rw [e]
    refine (br_f b1 (br_t b7 ⟨pv, (br_f (by decide) (xa_fingt HP (by rw [e]; decide) (by rw [e]; decide) ?_))⟩))
    have tj : ∀ t : Nat → Int32, pn_tj (upd st p 3) t p = upd t p 0 := fun t => pn_tj_off (by rw [pn_at]; decide)
    refine H _ _ _ _ _ _ _ _ _ _ _ _ _ _ _ _ _ _ _ _ _ _ _ _ _ _ _ _ _ _ ?_ (fun Q hQ => ?_)
    · rw [tj]; exact ⟨(pn_VS_u (n := 3) VS rfl (by decide) (fun j ej => by first | rfl | (rw [pn_ne _ _ ej]) | (rw [pn_ne _ _ ej, pn_ne _ _ ej])) (fun _ => pn_at _ _ _)), VO, VQ, VN⟩
    rw [tj] at hQ
    unfold wpY_rxjMinus
    refine ya_st HP ?_
    rw [e]
    refine (br_f (by decide) (br_f (by decide) (ya_tlf HP (br_f (by decide) (br_f (by decide) (br_f (by decide) (br_f (by decide) ?_)))))))
    unfold wY_rxjMinus_67
    exact (ya_fin0 HP (by decide) (hQ _ _ _ _))
  · have e : st p = 6 := es
    rw [e]
    refine (br_f b1 (br_t b7 ⟨pv, (br_f (by decide) (xa_fingt HP (by rw [e]; decide) (by rw [e]; decide) ?_))⟩))
    have tj : ∀ t : Nat → Int32, pn_tj (upd st p 3) t p = upd t p 0 := fun t => pn_tj_off (by rw [pn_at]; decide)
    refine H _ _ _ _ _ _ _ _ _ _ _ _ _ _ _ _ _ _ _ _ _ _ _ _ _ _ _ _ _ _ ?_ (fun Q hQ => ?_)
    · rw [tj]; exact ⟨(pn_VS_u (n := 3) VS rfl (by decide) (fun j ej => by first | rfl | (rw [pn_ne _ _ ej]) | (rw [pn_ne _ _ ej, pn_ne _ _ ej])) (fun _ => pn_at _ _ _)), VO, VQ, VN⟩
    rw [tj] at hQ
    unfold wpY_rxjMinus
    refine ya_st HP ?_
    rw [e]
    refine (br_f (by decide) (br_f (by decide) (ya_tlf HP (br_f (by decide) (br_f (by decide) (br_f (by decide) (br_f (by decide) ?_)))))))
    unfold wY_rxjMinus_67
    exact (ya_fin0 HP (by decide) (hQ _ _ _ _))
  · have e : st p = 7 := es
    rw [e]
    refine (br_f b1 (br_t b7 ⟨pv, (br_f (by decide) (xa_fingt HP (by rw [e]; decide) (by rw [e]; decide) ?_))⟩))
    have tj : ∀ t : Nat → Int32, pn_tj (upd st p 3) t p = upd t p 0 := fun t => pn_tj_off (by rw [pn_at]; decide)
    refine H _ _ _ _ _ _ _ _ _ _ _ _ _ _ _ _ _ _ _ _ _ _ _ _ _ _ _ _ _ _ ?_ (fun Q hQ => ?_)
    · rw [tj]; exact ⟨(pn_VS_u (n := 3) VS rfl (by decide) (fun j ej => by first | rfl | (rw [pn_ne _ _ ej]) | (rw [pn_ne _ _ ej, pn_ne _ _ ej])) (fun _ => pn_at _ _ _)), VO, VQ, VN⟩
    rw [tj] at hQ
    unfold wpY_rxjMinus
    refine ya_st HP ?_
    rw [e]
    refine (br_f (by decide) (br_f (by decide) (ya_tlf HP (br_f (by decide) (br_f (by decide) (br_f (by decide) (br_f (by decide) ?_)))))))
    unfold wY_rxjMinus_67
    exact (ya_fin0 HP (by decide) (hQ _ _ _ _))
  · have e : st p = 8 := es
    rw [e]
    refine (br_f b1 (br_t b7 ⟨pv, (br_f (by decide) (xa_fingt HP (by rw [e]; decide) (by rw [e]; decide) ?_))⟩))
    have tj : ∀ t : Nat → Int32, pn_tj (upd st p 3) t p = upd t p 0 := fun t => pn_tj_off (by rw [pn_at]; decide)
    refine H _ _ _ _ _ _ _ _ _ _ _ _ _ _ _ _ _ _ _ _ _ _ _ _ _ _ _ _ _ _ ?_ (fun Q hQ => ?_)
    · rw [tj]; exact ⟨(pn_VS_u (n := 3) VS rfl (by decide) (fun j ej => by first | rfl | (rw [pn_ne _ _ ej]) | (rw [pn_ne _ _ ej, pn_ne _ _ ej])) (fun _ => pn_at _ _ _)), VO, VQ, VN⟩
    rw [tj] at hQ
    unfold wpY_rxjMinus
    refine ya_st HP ?_
    rw [e]
    refine (br_f (by decide) (br_f (by decide) (ya_tlf HP (br_f (by decide) (br_f (by decide) (br_f (by decide) (br_f (by decide) ?_)))))))
    unfold wY_rxjMinus_67
    exact (ya_fin0 HP (by decide) (hQ _ _ _ _))
  · have e : st p = 9 := es
    rw [e]
    refine (br_f b1 (br_t b7 ⟨pv, (br_t (by decide) ⟨pv, ⟨pv, (nm_e (xa_bterm HP VN ez hz8 ?_))⟩⟩)⟩))
    have tj : ∀ t : Nat → Int32, pn_tj (upd st p 5) t p = t := fun t => pn_tj_on (by rw [pn_at]; decide) (by rw [pn_at]; decide)
    refine H _ _ _ _ _ _ _ _ _ _ _ _ _ _ _ _ _ _ _ _ _ _ _ _ _ _ _ _ _ _ ?_ (fun Q hQ => ?_)
    · rw [tj]; exact ⟨(pn_VS_u (n := 5) VS rfl (by decide) (fun j ej => by first | rfl | (rw [pn_ne _ _ ej]) | (rw [pn_ne _ _ ej, pn_ne _ _ ej])) (fun z => absurd z (by decide))), VO, (pn_VQ_a VQ hp), VN⟩
    rw [tj] at hQ
    unfold wpY_rxjMinus
    refine ya_st HP ?_
    rw [e]
    refine (br_f (by decide) (br_t (by decide) (br_f (by decide) (br_f (by decide) (br_t (by decide) (br_t (by decide) (ya_tld HP (ya_ircT HP (ya_str HP ez hz8 (fun _ => ?_))))))))))
    unfold wY_rxjMinus_67
    exact (ya_fin1 HP (by decide) (by decide) (hQ _ _ _ _))
theorem ev_top (HP : pn_P P p) (V : pn_V st ti lo hi ic q no) (hr : 0 < rs p) (h4 : ¬ st p < 4) (h8 : ¬ 8 < st p) (H : pn_H post p ih mg (fun Q => ∀ ou rp ca sg : Nat → Int32, wpY_toPlus Q (C, T, F, K, pn_I st rs ti ni cr hc nk ms ei us dn sa fi, pn_O lo hi wa ic se lc rm, w, q, mg, ou, rp, ca, sg) P)) : wpX_onTimeout post (C, T, F, K, rc, st, rs, ti, ni, cr, hc, nk, ms, ei, us, dn, sa, fi, lo, hi, wa, ic, se, lc, rm, w, q, ih, vd, ro, no) P := by
  obtain ⟨VS, VO, VQ, VN⟩ := V
  have hp := pp_lt HP
  have pv := pp_v HP
  obtain ⟨s, hs9, es, ht⟩ := VS p hp
  obtain ⟨z, hz8, ez⟩ := VQ p hp
  obtain ⟨z2, hz82, ez2⟩ := (pn_VQ_a VQ hp) p hp
  have hs4 : 4 ≤ s := Nat.le_of_not_lt (fun z => h4 (by rw [es]; exact nI_lt (b := 4) z (by decide)))
  have hs8 : s ≤ 8 := Nat.le_of_not_lt (fun z => h8 (by rw [es]; exact nI_lt (a := 8) z (by omega)))
  unfold wpX_onTimeout wX_onTimeout_37
  refine ⟨pv, ?_⟩
  rw [pp_n HP]
  have hcase : s = 4 ∨ s = 5 ∨ s = 6 ∨ s = 7 ∨ s = 8 := by omega
  rcases hcase with rfl | rfl | rfl | rfl | rfl
  · have e : st p = 4 := es
    rw [e]
    refine (br_t hr ⟨pv, (br_t (by decide) (xa_str HP VN ez hz8 ?_))⟩)
    have tj : ∀ t : Nat → Int32, pn_tj st t p = t := fun t => pn_tj_on (by rw [e]; decide) (by rw [e]; decide)
    refine H _ _ _ _ _ _ _ _ _ _ _ _ _ _ _ _ _ _ _ _ _ _ _ _ _ _ _ _ _ _ ?_ (fun Q hQ => ?_)
    · rw [tj]; exact ⟨(pn_VS_k (n := 4) VS hp es (by decide) (fun j ej => by first | rfl | (rw [pn_ne _ _ ej]) | (rw [pn_ne _ _ ej, pn_ne _ _ ej])) (fun z => absurd z (by decide))), VO, (pn_VQ_a VQ hp), VN⟩
    rw [tj] at hQ
    intro ou0 rp0 ca0 sg0
    unfold wpY_toPlus
    refine ya_st HP ?_
    rw [e]
    refine (br_t (by decide) ?_)
    unfold wY_toPlus_18
    refine (ya_str HP ez hz8 (fun _ => (br_f (by decide) (br_f (by decide) (br_f (by decide) ?_)))))
    unfold wY_toPlus_54
    exact (ya_fins1 HP e (by decide) (by decide) (hQ _ _ _ _))
  · have e : st p = 5 := es
    rw [e]
    refine (br_t hr ⟨pv, (br_f (by decide) ⟨pv, (br_t (by decide) (xa_str HP VN ez hz8 ?_))⟩)⟩)
    have tj : ∀ t : Nat → Int32, pn_tj st t p = t := fun t => pn_tj_on (by rw [e]; decide) (by rw [e]; decide)
    refine H _ _ _ _ _ _ _ _ _ _ _ _ _ _ _ _ _ _ _ _ _ _ _ _ _ _ _ _ _ _ ?_ (fun Q hQ => ?_)
    · rw [tj]; exact ⟨(pn_VS_k (n := 5) VS hp es (by decide) (fun j ej => by first | rfl | (rw [pn_ne _ _ ej]) | (rw [pn_ne _ _ ej, pn_ne _ _ ej])) (fun z => absurd z (by decide))), VO, (pn_VQ_a VQ hp), VN⟩
    rw [tj] at hQ
    intro ou0 rp0 ca0 sg0
    unfold wpY_toPlus
    refine ya_st HP ?_
    rw [e]
    refine (br_f (by decide) (br_t (by decide) ?_))
    unfold wY_toPlus_18
    refine (ya_str HP ez hz8 (fun _ => (br_f (by decide) (br_f (by decide) (br_f (by decide) ?_)))))
    unfold wY_toPlus_54
    exact (ya_fins1 HP e (by decide) (by decide) (hQ _ _ _ _))
  · have e : st p = 6 := es
    rw [e]
    refine (br_t hr ⟨pv, (br_f (by decide) ⟨pv, (br_f (by decide) (xa_scr HP ez hz8 ⟨pv, (br_f (by rw [e]; decide) ?_)⟩))⟩)⟩)
    have tj : ∀ t : Nat → Int32, pn_tj st t p = t := fun t => pn_tj_on (by rw [e]; decide) (by rw [e]; decide)
    refine H _ _ _ _ _ _ _ _ _ _ _ _ _ _ _ _ _ _ _ _ _ _ _ _ _ _ _ _ _ _ ?_ (fun Q hQ => ?_)
    · rw [tj]; exact ⟨(pn_VS_k (n := 6) VS hp es (by decide) (fun j ej => by first | rfl | (rw [pn_ne _ _ ej]) | (rw [pn_ne _ _ ej, pn_ne _ _ ej])) (fun z => absurd z (by decide))), VO, (pn_VQ_a VQ hp), VN⟩
    rw [tj] at hQ
    intro ou0 rp0 ca0 sg0
    unfold wpY_toPlus
    refine ya_st HP ?_
    rw [e]
    refine (br_f (by decide) (br_f (by decide) (br_t (by decide) ?_)))
    unfold wY_toPlus_35
    refine (ya_scr HP VO ez hz8 (fun _ => (br_f (by decide) ?_)))
    unfold wY_toPlus_54
    exact (ya_fins1 HP e (by decide) (by decide) (hQ _ _ _ _))
  · have e : st p = 7 := es
    rw [e]
    refine (br_t hr ⟨pv, (br_f (by decide) ⟨pv, (br_f (by decide) (xa_scr HP ez hz8 ⟨pv, (br_t e ⟨pv, (nm_e ?_)⟩)⟩))⟩)⟩)
    have tj : ∀ t : Nat → Int32, pn_tj (upd st p 6) t p = t := fun t => pn_tj_on (by rw [pn_at]; decide) (by rw [pn_at]; decide)
    refine H _ _ _ _ _ _ _ _ _ _ _ _ _ _ _ _ _ _ _ _ _ _ _ _ _ _ _ _ _ _ ?_ (fun Q hQ => ?_)
    · rw [tj]; exact ⟨(pn_VS_u (n := 6) VS rfl (by decide) (fun j ej => by first | rfl | (rw [pn_ne _ _ ej]) | (rw [pn_ne _ _ ej, pn_ne _ _ ej])) (fun z => absurd z (by decide))), VO, (pn_VQ_a VQ hp), VN⟩
    rw [tj] at hQ
    intro ou0 rp0 ca0 sg0
    unfold wpY_toPlus
    refine ya_st HP ?_
    rw [e]
    refine (br_f (by decide) (br_f (by decide) (br_f (by decide) (br_f (by decide) (br_t (by decide) (ya_scr HP VO ez hz8 (fun _ => ?_)))))))
    unfold wY_toPlus_54
    exact (ya_fin1 HP (by decide) (by decide) (hQ _ _ _ _))
  · have e : st p = 8 := es
    rw [e]
    refine (br_t hr ⟨pv, (br_f (by decide) ⟨pv, (br_f (by decide) (xa_scr HP ez hz8 ⟨pv, (br_f (by rw [e]; decide) ?_)⟩))⟩)⟩)
    have tj : ∀ t : Nat → Int32, pn_tj st t p = t := fun t => pn_tj_on (by rw [e]; decide) (by rw [e]; decide)
    refine H _ _ _ _ _ _ _ _ _ _ _ _ _ _ _ _ _ _ _ _ _ _ _ _ _ _ _ _ _ _ ?_ (fun Q hQ => ?_)
    · rw [tj]; exact ⟨(pn_VS_k (n := 8) VS hp es (by decide) (fun j ej => by first | rfl | (rw [pn_ne _ _ ej]) | (rw [pn_ne _ _ ej, pn_ne _ _ ej])) (fun z => absurd z (by decide))), VO, (pn_VQ_a VQ hp), VN⟩
    rw [tj] at hQ
    intro ou0 rp0 ca0 sg0
    unfold wpY_toPlus
    refine ya_st HP ?_
    rw [e]
    refine (br_f (by decide) (br_f (by decide) (br_f (by decide) (br_t (by decide) ?_))))
    unfold wY_toPlus_35
    refine (ya_scr HP VO ez hz8 (fun _ => (br_f (by decide) ?_)))
    unfold wY_toPlus_54
    exact (ya_fins1 HP e (by decide) (by decide) (hQ _ _ _ _))
theorem ev_tom (HP : pn_P P p) (V : pn_V st ti lo hi ic q no) (hr : ¬ 0 < rs p) (h4 : ¬ st p < 4) (h8 : ¬ 8 < st p) (H : pn_H post p ih mg (fun Q => ∀ ou rp ca sg : Nat → Int32, wpY_toMinus Q (C, T, F, K, pn_I st rs ti ni cr hc nk ms ei us dn sa fi, pn_O lo hi wa ic se lc rm, w, q, mg, ou, rp, ca, sg) P)) : wpX_onTimeout post (C, T, F, K, rc, st, rs, ti, ni, cr, hc, nk, ms, ei, us, dn, sa, fi, lo, hi, wa, ic, se, lc, rm, w, q, ih, vd, ro, no) P := by
  obtain ⟨VS, VO, VQ, VN⟩ := V
  have hp := pp_lt HP
  have pv := pp_v HP
  obtain ⟨s, hs9, es, ht⟩ := VS p hp
  obtain ⟨z, hz8, ez⟩ := VQ p hp
  obtain ⟨z2, hz82, ez2⟩ := (pn_VQ_a VQ hp) p hp
  have hs4 : 4 ≤ s := Nat.le_of_not_lt (fun z => h4 (by rw [es]; exact nI_lt (b := 4) z (by decide)))
  have hs8 : s ≤ 8 := Nat.le_of_not_lt (fun z => h8 (by rw [es]; exact nI_lt (a := 8) z (by omega)))
  unfold wpX_onTimeout
  refine ⟨pv, ?_⟩
  rw [pp_n HP]
  have hcase : s = 4 ∨ s = 5 ∨ s = 6 ∨ s = 7 ∨ s = 8 := by omega
  rcases hcase with rfl | rfl | rfl | rfl | rfl
  · have e : st p = 4 := es
    rw [e]
    refine (br_f hr (xa_fin4 HP e ?_))
    have tj : ∀ t : Nat → Int32, pn_tj (upd st p 2) t p = upd t p 0 := fun t => pn_tj_off (by rw [pn_at]; decide)
    refine H _ _ _ _ _ _ _ _ _ _ _ _ _ _ _ _ _ _ _ _ _ _ _ _ _ _ _ _ _ _ ?_ (fun Q hQ => ?_)
    · rw [tj]; exact ⟨(pn_VS_u (n := 2) VS rfl (by decide) (fun j ej => by first | rfl | (rw [pn_ne _ _ ej]) | (rw [pn_ne _ _ ej, pn_ne _ _ ej])) (fun _ => pn_at _ _ _)), VO, VQ, VN⟩
    rw [tj] at hQ
    intro ou0 rp0 ca0 sg0
    unfold wpY_toMinus
    refine ya_st HP ?_
    rw [e]
    refine (br_t (by decide) (ya_tlf HP (br_t (by decide) ?_)))
    unfold wY_toMinus_38
    exact (ya_fin0 HP (by decide) (hQ _ _ _ _))
  · have e : st p = 5 := es
    rw [e]
    refine (br_f hr (xa_fingt HP (by rw [e]; decide) (by rw [e]; decide) ?_))
    have tj : ∀ t : Nat → Int32, pn_tj (upd st p 3) t p = upd t p 0 := fun t => pn_tj_off (by rw [pn_at]; decide)
    refine H _ _ _ _ _ _ _ _ _ _ _ _ _ _ _ _ _ _ _ _ _ _ _ _ _ _ _ _ _ _ ?_ (fun Q hQ => ?_)
    · rw [tj]; exact ⟨(pn_VS_u (n := 3) VS rfl (by decide) (fun j ej => by first | rfl | (rw [pn_ne _ _ ej]) | (rw [pn_ne _ _ ej, pn_ne _ _ ej])) (fun _ => pn_at _ _ _)), VO, VQ, VN⟩
    rw [tj] at hQ
    intro ou0 rp0 ca0 sg0
    unfold wpY_toMinus
    refine ya_st HP ?_
    rw [e]
    refine (br_f (by decide) (br_f (by decide) (br_f (by decide) (ya_tlf HP ?_))))
    unfold wY_toMinus_38
    exact (ya_fin0 HP (by decide) (hQ _ _ _ _))
  · have e : st p = 6 := es
    rw [e]
    refine (br_f hr (xa_fingt HP (by rw [e]; decide) (by rw [e]; decide) ?_))
    have tj : ∀ t : Nat → Int32, pn_tj (upd st p 3) t p = upd t p 0 := fun t => pn_tj_off (by rw [pn_at]; decide)
    refine H _ _ _ _ _ _ _ _ _ _ _ _ _ _ _ _ _ _ _ _ _ _ _ _ _ _ _ _ _ _ ?_ (fun Q hQ => ?_)
    · rw [tj]; exact ⟨(pn_VS_u (n := 3) VS rfl (by decide) (fun j ej => by first | rfl | (rw [pn_ne _ _ ej]) | (rw [pn_ne _ _ ej, pn_ne _ _ ej])) (fun _ => pn_at _ _ _)), VO, VQ, VN⟩
    rw [tj] at hQ
    intro ou0 rp0 ca0 sg0
    unfold wpY_toMinus
    refine ya_st HP ?_
    rw [e]
    refine (br_f (by decide) (br_f (by decide) (br_f (by decide) (ya_tlf HP ?_))))
    unfold wY_toMinus_38
    exact (ya_fin0 HP (by decide) (hQ _ _ _ _))
  · have e : st p = 7 := es
    rw [e]
    refine (br_f hr (xa_fingt HP (by rw [e]; decide) (by rw [e]; decide) ?_))
    have tj : ∀ t : Nat → Int32, pn_tj (upd st p 3) t p = upd t p 0 := fun t => pn_tj_off (by rw [pn_at]; decide)
    refine H _ _ _ _ _ _ _ _ _ _ _ _ _ _ _ _ _ _ _ _ _ _ _ _ _ _ _ _ _ _ ?_ (fun Q hQ => ?_)
    · rw [tj]; exact ⟨(pn_VS_u (n := 3) VS rfl (by decide) (fun j ej => by first | rfl | (rw [pn_ne _ _ ej]) | (rw [pn_ne _ _ ej, pn_ne _ _ ej])) (fun _ => pn_at _ _ _)), VO, VQ, VN⟩
    rw [tj] at hQ
    intro ou0 rp0 ca0 sg0
    unfold wpY_toMinus
    refine ya_st HP ?_
    rw [e]
    refine (br_f (by decide) (br_f (by decide) (br_f (by decide) (ya_tlf HP ?_))))
    unfold wY_toMinus_38
    exact (ya_fin0 HP (by decide) (hQ _ _ _ _))
  · have e : st p = 8 := es
    rw [e]
    refine (br_f hr (xa_fingt HP (by rw [e]; decide) (by rw [e]; decide) ?_))
    have tj : ∀ t : Nat → Int32, pn_tj (upd st p 3) t p = upd t p 0 := fun t => pn_tj_off (by rw [pn_at]; decide)
    refine H _ _ _ _ _ _ _ _ _ _ _ _ _ _ _ _ _ _ _ _ _ _ _ _ _ _ _ _ _ _ ?_ (fun Q hQ => ?_)
    · rw [tj]; exact ⟨(pn_VS_u (n := 3) VS rfl (by decide) (fun j ej => by first | rfl | (rw [pn_ne _ _ ej]) | (rw [pn_ne _ _ ej, pn_ne _ _ ej])) (fun _ => pn_at _ _ _)), VO, VQ, VN⟩
    rw [tj] at hQ
    intro ou0 rp0 ca0 sg0
    unfold wpY_toMinus
    refine ya_st HP ?_
    rw [e]
    refine (br_f (by decide) (br_f (by decide) (br_f (by decide) (ya_tlf HP ?_))))
    unfold wY_toMinus_38
    exact (ya_fin0 HP (by decide) (hQ _ _ _ _))
end EV
