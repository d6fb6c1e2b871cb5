def pn_v4 (a b c d : Int32) : Nat → Int32 := fun k => match k with | 0 => a | 1 => b | 2 => c | _ => d
section IX
variable {C T F K rc : Int32} {st rs ti ni cr hc nk ms ei us dn sa fi lo hi wa ic se lc rm w q ih vd ro no : Nat → Int32} {P : Int32} {p : Nat} {post : St2 → Prop}
variable {N : Int32} {gc gs kc ks : Nat}
theorem xa_make (HP : pn_P P p) {k : Nat} (hk : k < 4) {a b : Int32} (h : post (C, T, F, K, rc, st, rs, ti, ni, cr, hc, nk, ms, ei, us, dn, sa, fi, upd lo (p * 4 + k) a, upd hi (p * 4 + k) b, wa, ic, upd se (p * 4 + k) (-1), upd lc (p * 4 + k) (-1), upd rm (p * 4 + k) (-1), w, q, ih, vd, ro, no)) : wpX_makeOption post (C, T, F, K, rc, st, rs, ti, ni, cr, hc, nk, ms, ei, us, dn, sa, fi, lo, hi, wa, ic, se, lc, rm, w, q, ih, vd, ro, no) P (nI k) a b := by
  unfold wpX_makeOption
  intro x5 e5
  have ex : x5.toNatClampNeg = p * 4 + k := by rw [e5, pp_4 HP hk]
  have vx : vp_in x5 8 := by rw [e5]; exact pp_v4 HP hk
  rw [ex]
  exact ⟨vx, nm_e ⟨vx, nm_e ⟨vx, nm_e ⟨vx, nm_e ⟨vx, nm_e h⟩⟩⟩⟩⟩
theorem xs_263 (HP : pn_P P p) (eN : P + 1 = N) {n : Nat} (h : wX_init_263 post gc gs kc ks n N C T F K rc st rs ti ni cr hc (upd nk p 0) ms ei us dn sa fi (pn_4 lo (p * 4) (pn_v4 64 1 1 0)) (pn_4 hi (p * 4) (pn_v4 1500 0 65535 15)) (pn_4 wa (p * 4) (pn_hi (pn_4 hi (p * 4) (pn_v4 1500 0 65535 15)) p)) (pn_4 ic (p * 4) (pn_in (pn_4 lo (p * 4) (pn_v4 64 1 1 0)) (pn_4 hi (p * 4) (pn_v4 1500 0 65535 15)) p)) (pn_4 se (p * 4) (pn_v4 (-1) (-1) (-1) (-1))) (pn_4 lc (p * 4) (pn_v4 (-1) (-1) (-1) (-1))) (pn_4 rm (p * 4) (pn_v4 (-1) (-1) (-1) (-1))) w q ih vd ro no) : wX_init_263 post gc gs kc ks (n + 1) P C T F K rc st rs ti ni cr hc nk ms ei us dn sa fi lo hi wa ic se lc rm w q ih vd ro no := by
  refine br_f (pp_n2 HP) ?_
  refine xa_make HP (k := 0) (by decide) ?_
  refine xa_make HP (k := 1) (by decide) ?_
  refine xa_make HP (k := 2) (by decide) ?_
  refine xa_make HP (k := 3) (by decide) ?_
  refine xa_start HP ?_
  exact nm_r eN h
theorem xs_240 {n k : Nat} (hk : k < 4) (h : wX_init_240 post gc gs kc ks C T F K rc n (nI (k + 1)) st rs ti ni cr hc nk ms ei us dn sa fi lo hi wa ic se lc rm w q ih vd ro (upd no k (-1))) : wX_init_240 post gc gs kc ks C T F K rc (n + 1) (nI k) st rs ti ni cr hc nk ms ei us dn sa fi lo hi wa ic se lc rm w q ih vd ro no := by
  refine br_f (pp_g4 hk) ⟨vp_in_nI hk (by decide), ?_⟩
  rw [nI_clamp (n := k) (by omega)]
  exact nm_e (nm_r (nI_1 k) h)
theorem in_lo : pn_4 (pn_4 ((fun _ => 0 : Nat → Int32)) (0 * 4) (pn_v4 64 1 1 0)) (1 * 4) (pn_v4 64 1 1 0) = upd (upd (upd (upd (upd (upd (upd (upd ((fun _ => 0 : Nat → Int32)) 0 64) 1 1) 2 1) 3 0) 4 64) 5 1) 6 1) 7 0 := rfl
theorem in_hi : pn_4 (pn_4 ((fun _ => 0 : Nat → Int32)) (0 * 4) (pn_v4 1500 0 65535 15)) (1 * 4) (pn_v4 1500 0 65535 15) = upd (upd (upd (upd (upd (upd (upd (upd ((fun _ => 0 : Nat → Int32)) 0 1500) 1 0) 2 65535) 3 15) 4 1500) 5 0) 6 65535) 7 15 := rfl
theorem in_ic : pn_4 (pn_4 ((fun _ => 0 : Nat → Int32)) (0 * 4) (pn_in (pn_4 ((fun _ => 0 : Nat → Int32)) (0 * 4) (pn_v4 64 1 1 0)) (pn_4 ((fun _ => 0 : Nat → Int32)) (0 * 4) (pn_v4 1500 0 65535 15)) 0)) (1 * 4) (pn_in (pn_4 (pn_4 ((fun _ => 0 : Nat → Int32)) (0 * 4) (pn_v4 64 1 1 0)) (1 * 4) (pn_v4 64 1 1 0)) (pn_4 (pn_4 ((fun _ => 0 : Nat → Int32)) (0 * 4) (pn_v4 1500 0 65535 15)) (1 * 4) (pn_v4 1500 0 65535 15)) 1) = upd (upd (upd (upd (upd (upd (upd (upd ((fun _ => 0 : Nat → Int32)) 0 (if (1500 : Int32) < 64 then 0 else 1)) 1 (if (0 : Int32) < 1 then 0 else 1)) 2 (if (65535 : Int32) < 1 then 0 else 1)) 3 (if (15 : Int32) < 0 then 0 else 1)) 4 (if (1500 : Int32) < 64 then 0 else 1)) 5 (if (0 : Int32) < 1 then 0 else 1)) 6 (if (65535 : Int32) < 1 then 0 else 1)) 7 (if (15 : Int32) < 0 then 0 else 1) := rfl
theorem in_VO : pn_VO (pn_4 (pn_4 ((fun _ => 0 : Nat → Int32)) (0 * 4) (pn_v4 64 1 1 0)) (1 * 4) (pn_v4 64 1 1 0)) (pn_4 (pn_4 ((fun _ => 0 : Nat → Int32)) (0 * 4) (pn_v4 1500 0 65535 15)) (1 * 4) (pn_v4 1500 0 65535 15)) (pn_4 (pn_4 ((fun _ => 0 : Nat → Int32)) (0 * 4) (pn_in (pn_4 ((fun _ => 0 : Nat → Int32)) (0 * 4) (pn_v4 64 1 1 0)) (pn_4 ((fun _ => 0 : Nat → Int32)) (0 * 4) (pn_v4 1500 0 65535 15)) 0)) (1 * 4) (pn_in (pn_4 (pn_4 ((fun _ => 0 : Nat → Int32)) (0 * 4) (pn_v4 64 1 1 0)) (1 * 4) (pn_v4 64 1 1 0)) (pn_4 (pn_4 ((fun _ => 0 : Nat → Int32)) (0 * 4) (pn_v4 1500 0 65535 15)) (1 * 4) (pn_v4 1500 0 65535 15)) 1)) := by
  intro i hi8
  rw [in_ic, in_lo, in_hi]
  have hc : i = 0 ∨ i = 1 ∨ i = 2 ∨ i = 3 ∨ i = 4 ∨ i = 5 ∨ i = 6 ∨ i = 7 := by omega
  rcases hc with rfl | rfl | rfl | rfl | rfl | rfl | rfl | rfl <;> decide
theorem in_I : iv_I 0 0 1 ((fun _ => 0 : Nat → Int32)) ((fun _ => 0 : Nat → Int32)) ((fun _ => 0 : Nat → Int32)) ((fun _ => 0 : Nat → Int32)) (pn_4 (pn_4 ((fun _ => 0 : Nat → Int32)) (0 * 4) (pn_v4 64 1 1 0)) (1 * 4) (pn_v4 64 1 1 0)) (pn_4 (pn_4 ((fun _ => 0 : Nat → Int32)) (0 * 4) (pn_v4 1500 0 65535 15)) (1 * 4) (pn_v4 1500 0 65535 15)) (pn_4 (pn_4 ((fun _ => 0 : Nat → Int32)) (0 * 4) (pn_hi (pn_4 ((fun _ => 0 : Nat → Int32)) (0 * 4) (pn_v4 1500 0 65535 15)) 0)) (1 * 4) (pn_hi (pn_4 (pn_4 ((fun _ => 0 : Nat → Int32)) (0 * 4) (pn_v4 1500 0 65535 15)) (1 * 4) (pn_v4 1500 0 65535 15)) 1)) (pn_4 (pn_4 ((fun _ => 0 : Nat → Int32)) (0 * 4) (pn_in (pn_4 ((fun _ => 0 : Nat → Int32)) (0 * 4) (pn_v4 64 1 1 0)) (pn_4 ((fun _ => 0 : Nat → Int32)) (0 * 4) (pn_v4 1500 0 65535 15)) 0)) (1 * 4) (pn_in (pn_4 (pn_4 ((fun _ => 0 : Nat → Int32)) (0 * 4) (pn_v4 64 1 1 0)) (1 * 4) (pn_v4 64 1 1 0)) (pn_4 (pn_4 ((fun _ => 0 : Nat → Int32)) (0 * 4) (pn_v4 1500 0 65535 15)) (1 * 4) (pn_v4 1500 0 65535 15)) 1)) (pn_4 (pn_4 ((fun _ => 0 : Nat → Int32)) (0 * 4) (pn_v4 (-1) (-1) (-1) (-1))) (1 * 4) (pn_v4 (-1) (-1) (-1) (-1))) (pn_4 (pn_4 ((fun _ => 0 : Nat → Int32)) (0 * 4) (pn_v4 (-1) (-1) (-1) (-1))) (1 * 4) (pn_v4 (-1) (-1) (-1) (-1))) (pn_4 (pn_4 ((fun _ => 0 : Nat → Int32)) (0 * 4) (pn_v4 (-1) (-1) (-1) (-1))) (1 * 4) (pn_v4 (-1) (-1) (-1) (-1))) ((fun _ => 0 : Nat → Int32)) ((fun _ => 0 : Nat → Int32)) (upd (upd (upd (upd (fun _ => 0 : Nat → Int32) 0 (-1)) 1 (-1)) 2 (-1)) 3 (-1)) := by
  refine ⟨in_VO, fun j _ => ⟨0, by decide, rfl⟩, ⟨rfl, rfl, rfl, rfl⟩, ⟨⟨by decide, by decide, by decide, by decide⟩, ⟨by decide, by decide, by decide, by decide⟩, ?_, ?_⟩, 0, 0, by decide, by decide, rfl, rfl, iv_F_0 (by decide), iv_F_0 (by decide)⟩
  · intro s j e1 h8 hj
    have : 0 = s := (nI_eq (a := 0) (by decide) (by omega)).mp e1
    omega
  · intro s j e1 h8 hj
    have : 0 = s := (nI_eq (a := 0) (by decide) (by omega)).mp e1
    omega
theorem xa_init {k0 k1 k2 k3 : Int32} (h : ∀ u, iv_U 0 u → post u) : wpX_init post 26 215 (0, 0, 0, 0, 0) k0 k1 k2 k3 := by
  unfold wpX_init
  refine ⟨by decide, by decide, by decide, by decide, by decide, by decide, by decide, by decide, by decide, by decide, by decide, by decide, by decide, by decide, by decide, by decide, by decide, by decide, by decide, by decide, by decide, by decide, by decide, by decide, by decide, by decide, by decide, by decide, by decide, by decide, by decide, by decide, by decide, by decide, by decide, by decide, by decide, by decide, by decide, by decide, by decide, by decide, by decide, by decide, by decide, by decide, by decide, by decide, by decide, by decide, by decide, by decide, ?_⟩
  refine xa_clamp ?_
  refine xa_clamp ?_
  refine xa_clamp ?_
  refine xa_clamp ?_
  refine ⟨5, xs_240 (k := 0) (by decide) (xs_240 (k := 1) (by decide) (xs_240 (k := 2) (by decide) (xs_240 (k := 3) (by decide) (br_t pp_44 ⟨3, ?_⟩))))⟩
  exact xs_263 pp_0 (N := 1) (by decide) (xs_263 pp_1 (N := 2) (by decide) (br_t (by decide) (h _ ⟨_, _, _, _, _, _, _, _, _, _, _, _, _, _, _, _, _, _, _, _, _, _, _, _, _, _, _, _, _, _, _, rfl, in_I⟩)))
end IX
