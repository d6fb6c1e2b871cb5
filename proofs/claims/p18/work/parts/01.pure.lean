def pn_2 (n : Nat) (A : Nat → Nat → Int32) : Nat → Int32 := fun j => A (j % n) (j / n)
theorem pn_mod {n p k : Nat} (hk : k < n) : (p * n + k) % n = k := by
  rw [Nat.mul_comm, Nat.mul_add_mod]; exact Nat.mod_eq_of_lt hk
theorem pn_div {n p k : Nat} (hk : k < n) : (p * n + k) / n = p := by
  have hn : 0 < n := by omega
  rw [Nat.mul_comm, Nat.mul_add_div hn, Nat.div_eq_of_lt hk, Nat.add_zero]
theorem pn_2_at {n : Nat} (A : Nat → Nat → Int32) (p k : Nat) (hk : k < n) : pn_2 n A (p * n + k) = A k p := by
  show A ((p * n + k) % n) ((p * n + k) / n) = A k p
  rw [pn_mod hk, pn_div hk]
theorem pn_2_up {n : Nat} (A B : Nat → Nat → Int32) (p k : Nat) (v : Int32) (hk : k < n) (hB : ∀ i, B i = if i = k then upd (A i) p v else A i) : upd (pn_2 n A) (p * n + k) v = pn_2 n B := by
  funext j
  show (if j = p * n + k then v else A (j % n) (j / n)) = B (j % n) (j / n)
  rw [hB]
  by_cases h : j = p * n + k
  · rw [if_pos h, h, pn_mod hk, pn_div hk, if_pos rfl]
    show v = if p = p then v else _
    rw [if_pos rfl]
  · rw [if_neg h]
    by_cases h1 : j % n = k
    · rw [if_pos h1]
      have h2 : ¬ j / n = p := by
        intro e
        apply h
        have := Nat.div_add_mod j n
        rw [← this, h1, e, Nat.mul_comm]
      show _ = if j / n = p then v else _
      rw [if_neg h2]
    · rw [if_neg h1]
theorem pn_self (f : Nat → Int32) (k : Nat) (v : Int32) (h : f k = v) : upd f k v = f := by
  funext j
  show (if j = k then v else f j) = f j
  by_cases e : j = k
  · rw [if_pos e, e, h]
  · rw [if_neg e]
theorem pn_uu (f : Nat → Int32) (k : Nat) (x y : Int32) : upd (upd f k x) k y = upd f k y := by
  funext j
  show (if j = k then y else if j = k then x else f j) = if j = k then y else f j
  by_cases e : j = k
  · rw [if_pos e, if_pos e]
  · rw [if_neg e, if_neg e, if_neg e]
theorem pn_at (f : Nat → Int32) (k : Nat) (x : Int32) : upd f k x k = x := by
  show (if k = k then x else f k) = x
  rw [if_pos rfl]
theorem pn_ne (f : Nat → Int32) {k j : Nat} (x : Int32) (h : j ≠ k) : upd f k x j = f j := by
  show (if j = k then x else f j) = f j
  rw [if_neg h]
def pn_I (st rs ti ni cr hc nk ms ei us dn sa fi : Nat → Int32) : Nat → Int32 := pn_2 13 (fun k => match k with | 0 => st | 1 => rs | 2 => ti | 3 => ni | 4 => cr | 5 => hc | 6 => nk | 7 => ms | 8 => ei | 9 => us | 10 => dn | 11 => sa | 12 => fi | _ => fun _ => 0)
theorem pn_I_a0 (st rs ti ni cr hc nk ms ei us dn sa fi : Nat → Int32) (p : Nat) : pn_I st rs ti ni cr hc nk ms ei us dn sa fi (p * 13 + 0) = st p := pn_2_at _ p 0 (by decide)
theorem pn_I_u0 (st rs ti ni cr hc nk ms ei us dn sa fi : Nat → Int32) (p : Nat) (v : Int32) : upd (pn_I st rs ti ni cr hc nk ms ei us dn sa fi) (p * 13 + 0) v = pn_I (upd st p v) rs ti ni cr hc nk ms ei us dn sa fi := by
  refine pn_2_up _ _ p 0 v (by decide) ?_
  intro i
  match i with
  | 0 => rfl
  | 1 => rfl
  | 2 => rfl
  | 3 => rfl
  | 4 => rfl
  | 5 => rfl
  | 6 => rfl
  | 7 => rfl
  | 8 => rfl
  | 9 => rfl
  | 10 => rfl
  | 11 => rfl
  | 12 => rfl
  | m + 13 => exact (if_neg (by omega)).symm
theorem pn_I_a1 (st rs ti ni cr hc nk ms ei us dn sa fi : Nat → Int32) (p : Nat) : pn_I st rs ti ni cr hc nk ms ei us dn sa fi (p * 13 + 1) = rs p := pn_2_at _ p 1 (by decide)
theorem pn_I_u1 (st rs ti ni cr hc nk ms ei us dn sa fi : Nat → Int32) (p : Nat) (v : Int32) : upd (pn_I st rs ti ni cr hc nk ms ei us dn sa fi) (p * 13 + 1) v = pn_I st (upd rs p v) ti ni cr hc nk ms ei us dn sa fi := by
  refine pn_2_up _ _ p 1 v (by decide) ?_
  intro i
  match i with
  | 0 => rfl
  | 1 => rfl
  | 2 => rfl
  | 3 => rfl
  | 4 => rfl
  | 5 => rfl
  | 6 => rfl
  | 7 => rfl
  | 8 => rfl
  | 9 => rfl
  | 10 => rfl
  | 11 => rfl
  | 12 => rfl
  | m + 13 => exact (if_neg (by omega)).symm
theorem pn_I_a2 (st rs ti ni cr hc nk ms ei us dn sa fi : Nat → Int32) (p : Nat) : pn_I st rs ti ni cr hc nk ms ei us dn sa fi (p * 13 + 2) = ti p := pn_2_at _ p 2 (by decide)
theorem pn_I_u2 (st rs ti ni cr hc nk ms ei us dn sa fi : Nat → Int32) (p : Nat) (v : Int32) : upd (pn_I st rs ti ni cr hc nk ms ei us dn sa fi) (p * 13 + 2) v = pn_I st rs (upd ti p v) ni cr hc nk ms ei us dn sa fi := by
  refine pn_2_up _ _ p 2 v (by decide) ?_
  intro i
  match i with
  | 0 => rfl
  | 1 => rfl
  | 2 => rfl
  | 3 => rfl
  | 4 => rfl
  | 5 => rfl
  | 6 => rfl
  | 7 => rfl
  | 8 => rfl
  | 9 => rfl
  | 10 => rfl
  | 11 => rfl
  | 12 => rfl
  | m + 13 => exact (if_neg (by omega)).symm
theorem pn_I_a3 (st rs ti ni cr hc nk ms ei us dn sa fi : Nat → Int32) (p : Nat) : pn_I st rs ti ni cr hc nk ms ei us dn sa fi (p * 13 + 3) = ni p := pn_2_at _ p 3 (by decide)
theorem pn_I_u3 (st rs ti ni cr hc nk ms ei us dn sa fi : Nat → Int32) (p : Nat) (v : Int32) : upd (pn_I st rs ti ni cr hc nk ms ei us dn sa fi) (p * 13 + 3) v = pn_I st rs ti (upd ni p v) cr hc nk ms ei us dn sa fi := by
  refine pn_2_up _ _ p 3 v (by decide) ?_
  intro i
  match i with
  | 0 => rfl
  | 1 => rfl
  | 2 => rfl
  | 3 => rfl
  | 4 => rfl
  | 5 => rfl
  | 6 => rfl
  | 7 => rfl
  | 8 => rfl
  | 9 => rfl
  | 10 => rfl
  | 11 => rfl
  | 12 => rfl
  | m + 13 => exact (if_neg (by omega)).symm
theorem pn_I_a4 (st rs ti ni cr hc nk ms ei us dn sa fi : Nat → Int32) (p : Nat) : pn_I st rs ti ni cr hc nk ms ei us dn sa fi (p * 13 + 4) = cr p := pn_2_at _ p 4 (by decide)
theorem pn_I_u4 (st rs ti ni cr hc nk ms ei us dn sa fi : Nat → Int32) (p : Nat) (v : Int32) : upd (pn_I st rs ti ni cr hc nk ms ei us dn sa fi) (p * 13 + 4) v = pn_I st rs ti ni (upd cr p v) hc nk ms ei us dn sa fi := by
  refine pn_2_up _ _ p 4 v (by decide) ?_
  intro i
  match i with
  | 0 => rfl
  | 1 => rfl
  | 2 => rfl
  | 3 => rfl
  | 4 => rfl
  | 5 => rfl
  | 6 => rfl
  | 7 => rfl
  | 8 => rfl
  | 9 => rfl
  | 10 => rfl
  | 11 => rfl
  | 12 => rfl
  | m + 13 => exact (if_neg (by omega)).symm
theorem pn_I_a5 (st rs ti ni cr hc nk ms ei us dn sa fi : Nat → Int32) (p : Nat) : pn_I st rs ti ni cr hc nk ms ei us dn sa fi (p * 13 + 5) = hc p := pn_2_at _ p 5 (by decide)
theorem pn_I_u5 (st rs ti ni cr hc nk ms ei us dn sa fi : Nat → Int32) (p : Nat) (v : Int32) : upd (pn_I st rs ti ni cr hc nk ms ei us dn sa fi) (p * 13 + 5) v = pn_I st rs ti ni cr (upd hc p v) nk ms ei us dn sa fi := by
  refine pn_2_up _ _ p 5 v (by decide) ?_
  intro i
  match i with
  | 0 => rfl
  | 1 => rfl
  | 2 => rfl
  | 3 => rfl
  | 4 => rfl
  | 5 => rfl
  | 6 => rfl
  | 7 => rfl
  | 8 => rfl
  | 9 => rfl
  | 10 => rfl
  | 11 => rfl
  | 12 => rfl
  | m + 13 => exact (if_neg (by omega)).symm
theorem pn_I_a6 (st rs ti ni cr hc nk ms ei us dn sa fi : Nat → Int32) (p : Nat) : pn_I st rs ti ni cr hc nk ms ei us dn sa fi (p * 13 + 6) = nk p := pn_2_at _ p 6 (by decide)
theorem pn_I_u6 (st rs ti ni cr hc nk ms ei us dn sa fi : Nat → Int32) (p : Nat) (v : Int32) : upd (pn_I st rs ti ni cr hc nk ms ei us dn sa fi) (p * 13 + 6) v = pn_I st rs ti ni cr hc (upd nk p v) ms ei us dn sa fi := by
  refine pn_2_up _ _ p 6 v (by decide) ?_
  intro i
  match i with
  | 0 => rfl
  | 1 => rfl
  | 2 => rfl
  | 3 => rfl
  | 4 => rfl
  | 5 => rfl
  | 6 => rfl
  | 7 => rfl
  | 8 => rfl
  | 9 => rfl
  | 10 => rfl
  | 11 => rfl
  | 12 => rfl
  | m + 13 => exact (if_neg (by omega)).symm
theorem pn_I_a7 (st rs ti ni cr hc nk ms ei us dn sa fi : Nat → Int32) (p : Nat) : pn_I st rs ti ni cr hc nk ms ei us dn sa fi (p * 13 + 7) = ms p := pn_2_at _ p 7 (by decide)
theorem pn_I_u7 (st rs ti ni cr hc nk ms ei us dn sa fi : Nat → Int32) (p : Nat) (v : Int32) : upd (pn_I st rs ti ni cr hc nk ms ei us dn sa fi) (p * 13 + 7) v = pn_I st rs ti ni cr hc nk (upd ms p v) ei us dn sa fi := by
  refine pn_2_up _ _ p 7 v (by decide) ?_
  intro i
  match i with
  | 0 => rfl
  | 1 => rfl
  | 2 => rfl
  | 3 => rfl
  | 4 => rfl
  | 5 => rfl
  | 6 => rfl
  | 7 => rfl
  | 8 => rfl
  | 9 => rfl
  | 10 => rfl
  | 11 => rfl
  | 12 => rfl
  | m + 13 => exact (if_neg (by omega)).symm
theorem pn_I_a8 (st rs ti ni cr hc nk ms ei us dn sa fi : Nat → Int32) (p : Nat) : pn_I st rs ti ni cr hc nk ms ei us dn sa fi (p * 13 + 8) = ei p := pn_2_at _ p 8 (by decide)
theorem pn_I_u8 (st rs ti ni cr hc nk ms ei us dn sa fi : Nat → Int32) (p : Nat) (v : Int32) : upd (pn_I st rs ti ni cr hc nk ms ei us dn sa fi) (p * 13 + 8) v = pn_I st rs ti ni cr hc nk ms (upd ei p v) us dn sa fi := by
  refine pn_2_up _ _ p 8 v (by decide) ?_
  intro i
  match i with
  | 0 => rfl
  | 1 => rfl
  | 2 => rfl
  | 3 => rfl
  | 4 => rfl
  | 5 => rfl
  | 6 => rfl
  | 7 => rfl
  | 8 => rfl
  | 9 => rfl
  | 10 => rfl
  | 11 => rfl
  | 12 => rfl
  | m + 13 => exact (if_neg (by omega)).symm
theorem pn_I_a9 (st rs ti ni cr hc nk ms ei us dn sa fi : Nat → Int32) (p : Nat) : pn_I st rs ti ni cr hc nk ms ei us dn sa fi (p * 13 + 9) = us p := pn_2_at _ p 9 (by decide)
theorem pn_I_u9 (st rs ti ni cr hc nk ms ei us dn sa fi : Nat → Int32) (p : Nat) (v : Int32) : upd (pn_I st rs ti ni cr hc nk ms ei us dn sa fi) (p * 13 + 9) v = pn_I st rs ti ni cr hc nk ms ei (upd us p v) dn sa fi := by
  refine pn_2_up _ _ p 9 v (by decide) ?_
  intro i
  match i with
  | 0 => rfl
  | 1 => rfl
  | 2 => rfl
  | 3 => rfl
  | 4 => rfl
  | 5 => rfl
  | 6 => rfl
  | 7 => rfl
  | 8 => rfl
  | 9 => rfl
  | 10 => rfl
  | 11 => rfl
  | 12 => rfl
  | m + 13 => exact (if_neg (by omega)).symm
theorem pn_I_a10 (st rs ti ni cr hc nk ms ei us dn sa fi : Nat → Int32) (p : Nat) : pn_I st rs ti ni cr hc nk ms ei us dn sa fi (p * 13 + 10) = dn p := pn_2_at _ p 10 (by decide)
theorem pn_I_u10 (st rs ti ni cr hc nk ms ei us dn sa fi : Nat → Int32) (p : Nat) (v : Int32) : upd (pn_I st rs ti ni cr hc nk ms ei us dn sa fi) (p * 13 + 10) v = pn_I st rs ti ni cr hc nk ms ei us (upd dn p v) sa fi := by
  refine pn_2_up _ _ p 10 v (by decide) ?_
  intro i
  match i with
  | 0 => rfl
  | 1 => rfl
  | 2 => rfl
  | 3 => rfl
  | 4 => rfl
  | 5 => rfl
  | 6 => rfl
  | 7 => rfl
  | 8 => rfl
  | 9 => rfl
  | 10 => rfl
  | 11 => rfl
  | 12 => rfl
  | m + 13 => exact (if_neg (by omega)).symm
theorem pn_I_a11 (st rs ti ni cr hc nk ms ei us dn sa fi : Nat → Int32) (p : Nat) : pn_I st rs ti ni cr hc nk ms ei us dn sa fi (p * 13 + 11) = sa p := pn_2_at _ p 11 (by decide)
theorem pn_I_u11 (st rs ti ni cr hc nk ms ei us dn sa fi : Nat → Int32) (p : Nat) (v : Int32) : upd (pn_I st rs ti ni cr hc nk ms ei us dn sa fi) (p * 13 + 11) v = pn_I st rs ti ni cr hc nk ms ei us dn (upd sa p v) fi := by
  refine pn_2_up _ _ p 11 v (by decide) ?_
  intro i
  match i with
  | 0 => rfl
  | 1 => rfl
  | 2 => rfl
  | 3 => rfl
  | 4 => rfl
  | 5 => rfl
  | 6 => rfl
  | 7 => rfl
  | 8 => rfl
  | 9 => rfl
  | 10 => rfl
  | 11 => rfl
  | 12 => rfl
  | m + 13 => exact (if_neg (by omega)).symm
theorem pn_I_a12 (st rs ti ni cr hc nk ms ei us dn sa fi : Nat → Int32) (p : Nat) : pn_I st rs ti ni cr hc nk ms ei us dn sa fi (p * 13 + 12) = fi p := pn_2_at _ p 12 (by decide)
theorem pn_I_u12 (st rs ti ni cr hc nk ms ei us dn sa fi : Nat → Int32) (p : Nat) (v : Int32) : upd (pn_I st rs ti ni cr hc nk ms ei us dn sa fi) (p * 13 + 12) v = pn_I st rs ti ni cr hc nk ms ei us dn sa (upd fi p v) := by
  refine pn_2_up _ _ p 12 v (by decide) ?_
  intro i
  match i with
  | 0 => rfl
  | 1 => rfl
  | 2 => rfl
  | 3 => rfl
  | 4 => rfl
  | 5 => rfl
  | 6 => rfl
  | 7 => rfl
  | 8 => rfl
  | 9 => rfl
  | 10 => rfl
  | 11 => rfl
  | 12 => rfl
  | m + 13 => exact (if_neg (by omega)).symm
theorem pn_I_0 : (fun _ => 0 : Nat → Int32) = pn_I (fun _ => 0) (fun _ => 0) (fun _ => 0) (fun _ => 0) (fun _ => 0) (fun _ => 0) (fun _ => 0) (fun _ => 0) (fun _ => 0) (fun _ => 0) (fun _ => 0) (fun _ => 0) (fun _ => 0) := by
  funext j
  show (0 : Int32) = pn_2 13 _ j
  unfold pn_2
  dsimp only
  generalize j % 13 = a
  match a with
  | 0 => rfl
  | 1 => rfl
  | 2 => rfl
  | 3 => rfl
  | 4 => rfl
  | 5 => rfl
  | 6 => rfl
  | 7 => rfl
  | 8 => rfl
  | 9 => rfl
  | 10 => rfl
  | 11 => rfl
  | 12 => rfl
  | m + 13 => rfl
def pn_O (lo hi wa ic se lc rm : Nat → Int32) : Nat → Int32 := pn_2 7 (fun k => match k with | 0 => lo | 1 => hi | 2 => wa | 3 => ic | 4 => se | 5 => lc | 6 => rm | _ => fun _ => 0)
theorem pn_O_a0 (lo hi wa ic se lc rm : Nat → Int32) (p : Nat) : pn_O lo hi wa ic se lc rm (p * 7 + 0) = lo p := pn_2_at _ p 0 (by decide)
theorem pn_O_u0 (lo hi wa ic se lc rm : Nat → Int32) (p : Nat) (v : Int32) : upd (pn_O lo hi wa ic se lc rm) (p * 7 + 0) v = pn_O (upd lo p v) hi wa ic se lc rm := by
  refine pn_2_up _ _ p 0 v (by decide) ?_
  intro i
  match i with
  | 0 => rfl
  | 1 => rfl
  | 2 => rfl
  | 3 => rfl
  | 4 => rfl
  | 5 => rfl
  | 6 => rfl
  | m + 7 => exact (if_neg (by omega)).symm
theorem pn_O_a1 (lo hi wa ic se lc rm : Nat → Int32) (p : Nat) : pn_O lo hi wa ic se lc rm (p * 7 + 1) = hi p := pn_2_at _ p 1 (by decide)
theorem pn_O_u1 (lo hi wa ic se lc rm : Nat → Int32) (p : Nat) (v : Int32) : upd (pn_O lo hi wa ic se lc rm) (p * 7 + 1) v = pn_O lo (upd hi p v) wa ic se lc rm := by
  refine pn_2_up _ _ p 1 v (by decide) ?_
  intro i
  match i with
  | 0 => rfl
  | 1 => rfl
  | 2 => rfl
  | 3 => rfl
  | 4 => rfl
  | 5 => rfl
  | 6 => rfl
  | m + 7 => exact (if_neg (by omega)).symm
theorem pn_O_a2 (lo hi wa ic se lc rm : Nat → Int32) (p : Nat) : pn_O lo hi wa ic se lc rm (p * 7 + 2) = wa p := pn_2_at _ p 2 (by decide)
theorem pn_O_u2 (lo hi wa ic se lc rm : Nat → Int32) (p : Nat) (v : Int32) : upd (pn_O lo hi wa ic se lc rm) (p * 7 + 2) v = pn_O lo hi (upd wa p v) ic se lc rm := by
  refine pn_2_up _ _ p 2 v (by decide) ?_
  intro i
  match i with
  | 0 => rfl
  | 1 => rfl
  | 2 => rfl
  | 3 => rfl
  | 4 => rfl
  | 5 => rfl
  | 6 => rfl
  | m + 7 => exact (if_neg (by omega)).symm
theorem pn_O_a3 (lo hi wa ic se lc rm : Nat → Int32) (p : Nat) : pn_O lo hi wa ic se lc rm (p * 7 + 3) = ic p := pn_2_at _ p 3 (by decide)
theorem pn_O_u3 (lo hi wa ic se lc rm : Nat → Int32) (p : Nat) (v : Int32) : upd (pn_O lo hi wa ic se lc rm) (p * 7 + 3) v = pn_O lo hi wa (upd ic p v) se lc rm := by
  refine pn_2_up _ _ p 3 v (by decide) ?_
  intro i
  match i with
  | 0 => rfl
  | 1 => rfl
  | 2 => rfl
  | 3 => rfl
  | 4 => rfl
  | 5 => rfl
  | 6 => rfl
  | m + 7 => exact (if_neg (by omega)).symm
theorem pn_O_a4 (lo hi wa ic se lc rm : Nat → Int32) (p : Nat) : pn_O lo hi wa ic se lc rm (p * 7 + 4) = se p := pn_2_at _ p 4 (by decide)
theorem pn_O_u4 (lo hi wa ic se lc rm : Nat → Int32) (p : Nat) (v : Int32) : upd (pn_O lo hi wa ic se lc rm) (p * 7 + 4) v = pn_O lo hi wa ic (upd se p v) lc rm := by
  refine pn_2_up _ _ p 4 v (by decide) ?_
  intro i
  match i with
  | 0 => rfl
  | 1 => rfl
  | 2 => rfl
  | 3 => rfl
  | 4 => rfl
  | 5 => rfl
  | 6 => rfl
  | m + 7 => exact (if_neg (by omega)).symm
theorem pn_O_a5 (lo hi wa ic se lc rm : Nat → Int32) (p : Nat) : pn_O lo hi wa ic se lc rm (p * 7 + 5) = lc p := pn_2_at _ p 5 (by decide)
theorem pn_O_u5 (lo hi wa ic se lc rm : Nat → Int32) (p : Nat) (v : Int32) : upd (pn_O lo hi wa ic se lc rm) (p * 7 + 5) v = pn_O lo hi wa ic se (upd lc p v) rm := by
  refine pn_2_up _ _ p 5 v (by decide) ?_
  intro i
  match i with
  | 0 => rfl
  | 1 => rfl
  | 2 => rfl
  | 3 => rfl
  | 4 => rfl
  | 5 => rfl
  | 6 => rfl
  | m + 7 => exact (if_neg (by omega)).symm
theorem pn_O_a6 (lo hi wa ic se lc rm : Nat → Int32) (p : Nat) : pn_O lo hi wa ic se lc rm (p * 7 + 6) = rm p := pn_2_at _ p 6 (by decide)
theorem pn_O_u6 (lo hi wa ic se lc rm : Nat → Int32) (p : Nat) (v : Int32) : upd (pn_O lo hi wa ic se lc rm) (p * 7 + 6) v = pn_O lo hi wa ic se lc (upd rm p v) := by
  refine pn_2_up _ _ p 6 v (by decide) ?_
  intro i
  match i with
  | 0 => rfl
  | 1 => rfl
  | 2 => rfl
  | 3 => rfl
  | 4 => rfl
  | 5 => rfl
  | 6 => rfl
  | m + 7 => exact (if_neg (by omega)).symm
theorem pn_O_0 : (fun _ => 0 : Nat → Int32) = pn_O (fun _ => 0) (fun _ => 0) (fun _ => 0) (fun _ => 0) (fun _ => 0) (fun _ => 0) (fun _ => 0) := by
  funext j
  show (0 : Int32) = pn_2 7 _ j
  unfold pn_2
  dsimp only
  generalize j % 7 = a
  match a with
  | 0 => rfl
  | 1 => rfl
  | 2 => rfl
  | 3 => rfl
  | 4 => rfl
  | 5 => rfl
  | 6 => rfl
  | m + 7 => rfl
def pn_sh (w : Nat → Int32) (b n : Nat) : Nat → Int32 := fun j => if b ≤ j ∧ j < b + n then w (j + 7) else w j
theorem pn_sh0 (w : Nat → Int32) (b : Nat) : pn_sh w b 0 = w := by
  funext j
  show (if b ≤ j ∧ j < b + 0 then w (j + 7) else w j) = w j
  rw [if_neg (by omega)]
theorem pn_shs (w : Nat → Int32) (b n : Nat) : upd (pn_sh w b n) (b + n) (pn_sh w b n (b + n + 7)) = pn_sh w b (n + 1) := by
  funext j
  show (if j = b + n then (if b ≤ b + n + 7 ∧ b + n + 7 < b + n then w (b + n + 7 + 7) else w (b + n + 7)) else if b ≤ j ∧ j < b + n then w (j + 7) else w j) = if b ≤ j ∧ j < b + (n + 1) then w (j + 7) else w j
  rw [if_neg (by omega : ¬ (b ≤ b + n + 7 ∧ b + n + 7 < b + n))]
  by_cases h : j = b + n
  · rw [if_pos h, if_pos (by omega), h]
  · rw [if_neg h]
    by_cases h2 : b ≤ j ∧ j < b + n
    · rw [if_pos h2, if_pos (by omega)]
    · rw [if_neg h2, if_neg (by omega)]
