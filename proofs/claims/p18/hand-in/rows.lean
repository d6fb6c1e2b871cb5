section
def pn_2 (n : Nat) (A : Nat → Nat → Int32) : Nat → Int32 := fun j => A (j % n) (j / n)
theorem pn_mod {n p k : Nat} (hk : k < n) : (p * n + k) % n = k := by
  rw [Nat.mul_comm, Nat.mul_add_mod]; exact Nat.mod_eq_of_lt hk
theorem pn_div {n p k : Nat} (hk : k < n) : (p * n + k) / n = p := by
  have hn : 0 < n := by omega
  rw [Nat.mul_comm, Nat.mul_add_div hn, Nat.div_eq_of_lt hk, Nat.add_zero]
theorem pn_2_at {n : Nat} (A : Nat → Nat → Int32) (p k : Nat) (hk : k < n) : pn_2 n A (p * n + k) = A k p := by
  show A ((p * n + k) % n) ((p * n + k) / n) = A k p
  rw [pn_mod hk, pn_div hk]
theorem pn_2_up {n : Nat} (A B : Nat → Nat → Int32) (p k : Nat) (v : Int32) (hk : k < n) (hB : ∀ i, B i = if i = k then upd (A i) p v else A i) : upd (pn_2 n A) (p * n + k) v = pn_2 n B := by
  funext j
  show (if j = p * n + k then v else A (j % n) (j / n)) = B (j % n) (j / n)
  rw [hB]
  by_cases h : j = p * n + k
  · rw [if_pos h, h, pn_mod hk, pn_div hk, if_pos rfl]
    show v = if p = p then v else _
    rw [if_pos rfl]
  · rw [if_neg h]
    by_cases h1 : j % n = k
    · rw [if_pos h1]
      have h2 : ¬ j / n = p := by
        intro e
        apply h
        have := Nat.div_add_mod j n
        rw [← this, h1, e, Nat.mul_comm]
      show _ = if j / n = p then v else _
      rw [if_neg h2]
    · rw [if_neg h1]
theorem pn_self (f : Nat → Int32) (k : Nat) (v : Int32) (h : f k = v) : upd f k v = f := by
  funext j
  show (if j = k then v else f j) = f j
  by_cases e : j = k
  · rw [if_pos e, e, h]
  · rw [if_neg e]
theorem pn_uu (f : Nat → Int32) (k : Nat) (x y : Int32) : upd (upd f k x) k y = upd f k y := by
  funext j
  show (if j = k then y else if j = k then x else f j) = if j = k then y else f j
  by_cases e : j = k
  · rw [if_pos e, if_pos e]
  · rw [if_neg e, if_neg e, if_neg e]
theorem pn_at (f : Nat → Int32) (k : Nat) (x : Int32) : upd f k x k = x := by
  show (if k = k then x else f k) = x
  rw [if_pos rfl]
theorem pn_ne (f : Nat → Int32) {k j : Nat} (x : Int32) (h : j ≠ k) : upd f k x j = f j := by
  show (if j = k then x else f j) = f j
  rw [if_neg h]
def pn_I (st rs ti ni cr hc nk ms ei us dn sa fi : Nat → Int32) : Nat → Int32 := pn_2 13 (fun k => match k with | 0 => st | 1 => rs | 2 => ti | 3 => ni | 4 => cr | 5 => hc | 6 => nk | 7 => ms | 8 => ei | 9 => us | 10 => dn | 11 => sa | 12 => fi | _ => fun _ => 0)
theorem pn_I_a0 (st rs ti ni cr hc nk ms ei us dn sa fi : Nat → Int32) (p : Nat) : pn_I st rs ti ni cr hc nk ms ei us dn sa fi (p * 13 + 0) = st p := pn_2_at _ p 0 (by decide)
theorem pn_I_u0 (st rs ti ni cr hc nk ms ei us dn sa fi : Nat → Int32) (p : Nat) (v : Int32) : upd (pn_I st rs ti ni cr hc nk ms ei us dn sa fi) (p * 13 + 0) v = pn_I (upd st p v) rs ti ni cr hc nk ms ei us dn sa fi := by
  refine pn_2_up _ _ p 0 v (by decide) ?_
  intro i
  match i with
  | 0 => rfl
  | 1 => rfl
  | 2 => rfl
  | 3 => rfl
  | 4 => rfl
  | 5 => rfl
  | 6 => rfl
  | 7 => rfl
  | 8 => rfl
  | 9 => rfl
  | 10 => rfl
  | 11 => rfl
  | 12 => rfl
  | m + 13 => exact (if_neg (by omega)).symm
theorem pn_I_a1 (st rs ti ni cr hc nk ms ei us dn sa fi : Nat → Int32) (p : Nat) : pn_I st rs ti ni cr hc nk ms ei us dn sa fi (p * 13 + 1) = rs p := pn_2_at _ p 1 (by decide)
theorem pn_I_u1 (st rs ti ni cr hc nk ms ei us dn sa fi : Nat → Int32) (p : Nat) (v : Int32) : upd (pn_I st rs ti ni cr hc nk ms ei us dn sa fi) (p * 13 + 1) v = pn_I st (upd rs p v) ti ni cr hc nk ms ei us dn sa fi := by
  refine pn_2_up _ _ p 1 v (by decide) ?_
  intro i
  match i with
  | 0 => rfl
  | 1 => rfl
  | 2 => rfl
  | 3 => rfl
  | 4 => rfl
  | 5 => rfl
  | 6 => rfl
  | 7 => rfl
  | 8 => rfl
  | 9 => rfl
  | 10 => rfl
  | 11 => rfl
  | 12 => rfl
  | m + 13 => exact (if_neg (by omega)).symm
theorem pn_I_a2 (st rs ti ni cr hc nk ms ei us dn sa fi : Nat → Int32) (p : Nat) : pn_I st rs ti ni cr hc nk ms ei us dn sa fi (p * 13 + 2) = ti p := pn_2_at _ p 2 (by decide)
theorem pn_I_u2 (st rs ti ni cr hc nk ms ei us dn sa fi : Nat → Int32) (p : Nat) (v : Int32) : upd (pn_I st rs ti ni cr hc nk ms ei us dn sa fi) (p * 13 + 2) v = pn_I st rs (upd ti p v) ni cr hc nk ms ei us dn sa fi := by
  refine pn_2_up _ _ p 2 v (by decide) ?_
  intro i
  match i with
  | 0 => rfl
  | 1 => rfl
  | 2 => rfl
  | 3 => rfl
  | 4 => rfl
  | 5 => rfl
  | 6 => rfl
  | 7 => rfl
  | 8 => rfl
  | 9 => rfl
  | 10 => rfl
  | 11 => rfl
  | 12 => rfl
  | m + 13 => exact (if_neg (by omega)).symm
theorem pn_I_a3 (st rs ti ni cr hc nk ms ei us dn sa fi : Nat → Int32) (p : Nat) : pn_I st rs ti ni cr hc nk ms ei us dn sa fi (p * 13 + 3) = ni p := pn_2_at _ p 3 (by decide)
theorem pn_I_u3 (st rs ti ni cr hc nk ms ei us dn sa fi : Nat → Int32) (p : Nat) (v : Int32) : upd (pn_I st rs ti ni cr hc nk ms ei us dn sa fi) (p * 13 + 3) v = pn_I st rs ti (upd ni p v) cr hc nk ms ei us dn sa fi := by
  refine pn_2_up _ _ p 3 v (by decide) ?_
  intro i
  match i with
  | 0 => rfl
  | 1 => rfl
  | 2 => rfl
  | 3 => rfl
  | 4 => rfl
  | 5 => rfl
  | 6 => rfl
  | 7 => rfl
  | 8 => rfl
  | 9 => rfl
  | 10 => rfl
  | 11 => rfl
  | 12 => rfl
  | m + 13 => exact (if_neg (by omega)).symm
theorem pn_I_a4 (st rs ti ni cr hc nk ms ei us dn sa fi : Nat → Int32) (p : Nat) : pn_I st rs ti ni cr hc nk ms ei us dn sa fi (p * 13 + 4) = cr p := pn_2_at _ p 4 (by decide)
theorem pn_I_u4 (st rs ti ni cr hc nk ms ei us dn sa fi : Nat → Int32) (p : Nat) (v : Int32) : upd (pn_I st rs ti ni cr hc nk ms ei us dn sa fi) (p * 13 + 4) v = pn_I st rs ti ni (upd cr p v) hc nk ms ei us dn sa fi := by
  refine pn_2_up _ _ p 4 v (by decide) ?_
  intro i
  match i with
  | 0 => rfl
  | 1 => rfl
  | 2 => rfl
  | 3 => rfl
  | 4 => rfl
  | 5 => rfl
  | 6 => rfl
  | 7 => rfl
  | 8 => rfl
  | 9 => rfl
  | 10 => rfl
  | 11 => rfl
  | 12 => rfl
  | m + 13 => exact (if_neg (by omega)).symm
theorem pn_I_a5 (st rs ti ni cr hc nk ms ei us dn sa fi : Nat → Int32) (p : Nat) : pn_I st rs ti ni cr hc nk ms ei us dn sa fi (p * 13 + 5) = hc p := pn_2_at _ p 5 (by decide)
theorem pn_I_u5 (st rs ti ni cr hc nk ms ei us dn sa fi : Nat → Int32) (p : Nat) (v : Int32) : upd (pn_I st rs ti ni cr hc nk ms ei us dn sa fi) (p * 13 + 5) v = pn_I st rs ti ni cr (upd hc p v) nk ms ei us dn sa fi := by
  refine pn_2_up _ _ p 5 v (by decide) ?_
  intro i
  match i with
  | 0 => rfl
  | 1 => rfl
  | 2 => rfl
  | 3 => rfl
  | 4 => rfl
  | 5 => rfl
  | 6 => rfl
  | 7 => rfl
  | 8 => rfl
  | 9 => rfl
  | 10 => rfl
  | 11 => rfl
  | 12 => rfl
  | m + 13 => exact (if_neg (by omega)).symm
theorem pn_I_a6 (st rs ti ni cr hc nk ms ei us dn sa fi : Nat → Int32) (p : Nat) : pn_I st rs ti ni cr hc nk ms ei us dn sa fi (p * 13 + 6) = nk p := pn_2_at _ p 6 (by decide)
theorem pn_I_u6 (st rs ti ni cr hc nk ms ei us dn sa fi : Nat → Int32) (p : Nat) (v : Int32) : upd (pn_I st rs ti ni cr hc nk ms ei us dn sa fi) (p * 13 + 6) v = pn_I st rs ti ni cr hc (upd nk p v) ms ei us dn sa fi := by
  refine pn_2_up _ _ p 6 v (by decide) ?_
  intro i
  match i with
  | 0 => rfl
  | 1 => rfl
  | 2 => rfl
  | 3 => rfl
  | 4 => rfl
  | 5 => rfl
  | 6 => rfl
  | 7 => rfl
  | 8 => rfl
  | 9 => rfl
  | 10 => rfl
  | 11 => rfl
  | 12 => rfl
  | m + 13 => exact (if_neg (by omega)).symm
theorem pn_I_a7 (st rs ti ni cr hc nk ms ei us dn sa fi : Nat → Int32) (p : Nat) : pn_I st rs ti ni cr hc nk ms ei us dn sa fi (p * 13 + 7) = ms p := pn_2_at _ p 7 (by decide)
theorem pn_I_u7 (st rs ti ni cr hc nk ms ei us dn sa fi : Nat → Int32) (p : Nat) (v : Int32) : upd (pn_I st rs ti ni cr hc nk ms ei us dn sa fi) (p * 13 + 7) v = pn_I st rs ti ni cr hc nk (upd ms p v) ei us dn sa fi := by
  refine pn_2_up _ _ p 7 v (by decide) ?_
  intro i
  match i with
  | 0 => rfl
  | 1 => rfl
  | 2 => rfl
  | 3 => rfl
  | 4 => rfl
  | 5 => rfl
  | 6 => rfl
  | 7 => rfl
  | 8 => rfl
  | 9 => rfl
  | 10 => rfl
  | 11 => rfl
  | 12 => rfl
  | m + 13 => exact (if_neg (by omega)).symm
theorem pn_I_a8 (st rs ti ni cr hc nk ms ei us dn sa fi : Nat → Int32) (p : Nat) : pn_I st rs ti ni cr hc nk ms ei us dn sa fi (p * 13 + 8) = ei p := pn_2_at _ p 8 (by decide)
theorem pn_I_u8 (st rs ti ni cr hc nk ms ei us dn sa fi : Nat → Int32) (p : Nat) (v : Int32) : upd (pn_I st rs ti ni cr hc nk ms ei us dn sa fi) (p * 13 + 8) v = pn_I st rs ti ni cr hc nk ms (upd ei p v) us dn sa fi := by
  refine pn_2_up _ _ p 8 v (by decide) ?_
  intro i
  match i with
  | 0 => rfl
  | 1 => rfl
  | 2 => rfl
  | 3 => rfl
  | 4 => rfl
  | 5 => rfl
  | 6 => rfl
  | 7 => rfl
  | 8 => rfl
  | 9 => rfl
  | 10 => rfl
  | 11 => rfl
  | 12 => rfl
  | m + 13 => exact (if_neg (by omega)).symm
theorem pn_I_a9 (st rs ti ni cr hc nk ms ei us dn sa fi : Nat → Int32) (p : Nat) : pn_I st rs ti ni cr hc nk ms ei us dn sa fi (p * 13 + 9) = us p := pn_2_at _ p 9 (by decide)
theorem pn_I_u9 (st rs ti ni cr hc nk ms ei us dn sa fi : Nat → Int32) (p : Nat) (v : Int32) : upd (pn_I st rs ti ni cr hc nk ms ei us dn sa fi) (p * 13 + 9) v = pn_I st rs ti ni cr hc nk ms ei (upd us p v) dn sa fi := by
  refine pn_2_up _ _ p 9 v (by decide) ?_
  intro i
  match i with
  | 0 => rfl
  | 1 => rfl
  | 2 => rfl
  | 3 => rfl
  | 4 => rfl
  | 5 => rfl
  | 6 => rfl
  | 7 => rfl
  | 8 => rfl
  | 9 => rfl
  | 10 => rfl
  | 11 => rfl
  | 12 => rfl
  | m + 13 => exact (if_neg (by omega)).symm
theorem pn_I_a10 (st rs ti ni cr hc nk ms ei us dn sa fi : Nat → Int32) (p : Nat) : pn_I st rs ti ni cr hc nk ms ei us dn sa fi (p * 13 + 10) = dn p := pn_2_at _ p 10 (by decide)
theorem pn_I_u10 (st rs ti ni cr hc nk ms ei us dn sa fi : Nat → Int32) (p : Nat) (v : Int32) : upd (pn_I st rs ti ni cr hc nk ms ei us dn sa fi) (p * 13 + 10) v = pn_I st rs ti ni cr hc nk ms ei us (upd dn p v) sa fi := by
  refine pn_2_up _ _ p 10 v (by decide) ?_
  intro i
  match i with
  | 0 => rfl
  | 1 => rfl
  | 2 => rfl
  | 3 => rfl
  | 4 => rfl
  | 5 => rfl
  | 6 => rfl
  | 7 => rfl
  | 8 => rfl
  | 9 => rfl
  | 10 => rfl
  | 11 => rfl
  | 12 => rfl
  | m + 13 => exact (if_neg (by omega)).symm
theorem pn_I_a11 (st rs ti ni cr hc nk ms ei us dn sa fi : Nat → Int32) (p : Nat) : pn_I st rs ti ni cr hc nk ms ei us dn sa fi (p * 13 + 11) = sa p := pn_2_at _ p 11 (by decide)
theorem pn_I_u11 (st rs ti ni cr hc nk ms ei us dn sa fi : Nat → Int32) (p : Nat) (v : Int32) : upd (pn_I st rs ti ni cr hc nk ms ei us dn sa fi) (p * 13 + 11) v = pn_I st rs ti ni cr hc nk ms ei us dn (upd sa p v) fi := by
  refine pn_2_up _ _ p 11 v (by decide) ?_
  intro i
  match i with
  | 0 => rfl
  | 1 => rfl
  | 2 => rfl
  | 3 => rfl
  | 4 => rfl
  | 5 => rfl
  | 6 => rfl
  | 7 => rfl
  | 8 => rfl
  | 9 => rfl
  | 10 => rfl
  | 11 => rfl
  | 12 => rfl
  | m + 13 => exact (if_neg (by omega)).symm
theorem pn_I_a12 (st rs ti ni cr hc nk ms ei us dn sa fi : Nat → Int32) (p : Nat) : pn_I st rs ti ni cr hc nk ms ei us dn sa fi (p * 13 + 12) = fi p := pn_2_at _ p 12 (by decide)
theorem pn_I_u12 (st rs ti ni cr hc nk ms ei us dn sa fi : Nat → Int32) (p : Nat) (v : Int32) : upd (pn_I st rs ti ni cr hc nk ms ei us dn sa fi) (p * 13 + 12) v = pn_I st rs ti ni cr hc nk ms ei us dn sa (upd fi p v) := by
  refine pn_2_up _ _ p 12 v (by decide) ?_
  intro i
  match i with
  | 0 => rfl
  | 1 => rfl
  | 2 => rfl
  | 3 => rfl
  | 4 => rfl
  | 5 => rfl
  | 6 => rfl
  | 7 => rfl
  | 8 => rfl
  | 9 => rfl
  | 10 => rfl
  | 11 => rfl
  | 12 => rfl
  | m + 13 => exact (if_neg (by omega)).symm
theorem pn_I_0 : (fun _ => 0 : Nat → Int32) = pn_I (fun _ => 0) (fun _ => 0) (fun _ => 0) (fun _ => 0) (fun _ => 0) (fun _ => 0) (fun _ => 0) (fun _ => 0) (fun _ => 0) (fun _ => 0) (fun _ => 0) (fun _ => 0) (fun _ => 0) := by
  funext j
  show (0 : Int32) = pn_2 13 _ j
  unfold pn_2
  dsimp only
  generalize j % 13 = a
  match a with
  | 0 => rfl
  | 1 => rfl
  | 2 => rfl
  | 3 => rfl
  | 4 => rfl
  | 5 => rfl
  | 6 => rfl
  | 7 => rfl
  | 8 => rfl
  | 9 => rfl
  | 10 => rfl
  | 11 => rfl
  | 12 => rfl
  | m + 13 => rfl
def pn_O (lo hi wa ic se lc rm : Nat → Int32) : Nat → Int32 := pn_2 7 (fun k => match k with | 0 => lo | 1 => hi | 2 => wa | 3 => ic | 4 => se | 5 => lc | 6 => rm | _ => fun _ => 0)
theorem pn_O_a0 (lo hi wa ic se lc rm : Nat → Int32) (p : Nat) : pn_O lo hi wa ic se lc rm (p * 7 + 0) = lo p := pn_2_at _ p 0 (by decide)
theorem pn_O_u0 (lo hi wa ic se lc rm : Nat → Int32) (p : Nat) (v : Int32) : upd (pn_O lo hi wa ic se lc rm) (p * 7 + 0) v = pn_O (upd lo p v) hi wa ic se lc rm := by
  refine pn_2_up _ _ p 0 v (by decide) ?_
  intro i
  match i with
  | 0 => rfl
  | 1 => rfl
  | 2 => rfl
  | 3 => rfl
  | 4 => rfl
  | 5 => rfl
  | 6 => rfl
  | m + 7 => exact (if_neg (by omega)).symm
theorem pn_O_a1 (lo hi wa ic se lc rm : Nat → Int32) (p : Nat) : pn_O lo hi wa ic se lc rm (p * 7 + 1) = hi p := pn_2_at _ p 1 (by decide)
theorem pn_O_u1 (lo hi wa ic se lc rm : Nat → Int32) (p : Nat) (v : Int32) : upd (pn_O lo hi wa ic se lc rm) (p * 7 + 1) v = pn_O lo (upd hi p v) wa ic se lc rm := by
  refine pn_2_up _ _ p 1 v (by decide) ?_
  intro i
  match i with
  | 0 => rfl
  | 1 => rfl
  | 2 => rfl
  | 3 => rfl
  | 4 => rfl
  | 5 => rfl
  | 6 => rfl
  | m + 7 => exact (if_neg (by omega)).symm
theorem pn_O_a2 (lo hi wa ic se lc rm : Nat → Int32) (p : Nat) : pn_O lo hi wa ic se lc rm (p * 7 + 2) = wa p := pn_2_at _ p 2 (by decide)
theorem pn_O_u2 (lo hi wa ic se lc rm : Nat → Int32) (p : Nat) (v : Int32) : upd (pn_O lo hi wa ic se lc rm) (p * 7 + 2) v = pn_O lo hi (upd wa p v) ic se lc rm := by
  refine pn_2_up _ _ p 2 v (by decide) ?_
  intro i
  match i with
  | 0 => rfl
  | 1 => rfl
  | 2 => rfl
  | 3 => rfl
  | 4 => rfl
  | 5 => rfl
  | 6 => rfl
  | m + 7 => exact (if_neg (by omega)).symm
theorem pn_O_a3 (lo hi wa ic se lc rm : Nat → Int32) (p : Nat) : pn_O lo hi wa ic se lc rm (p * 7 + 3) = ic p := pn_2_at _ p 3 (by decide)
theorem pn_O_u3 (lo hi wa ic se lc rm : Nat → Int32) (p : Nat) (v : Int32) : upd (pn_O lo hi wa ic se lc rm) (p * 7 + 3) v = pn_O lo hi wa (upd ic p v) se lc rm := by
  refine pn_2_up _ _ p 3 v (by decide) ?_
  intro i
  match i with
  | 0 => rfl
  | 1 => rfl
  | 2 => rfl
  | 3 => rfl
  | 4 => rfl
  | 5 => rfl
  | 6 => rfl
  | m + 7 => exact (if_neg (by omega)).symm
theorem pn_O_a4 (lo hi wa ic se lc rm : Nat → Int32) (p : Nat) : pn_O lo hi wa ic se lc rm (p * 7 + 4) = se p := pn_2_at _ p 4 (by decide)
theorem pn_O_u4 (lo hi wa ic se lc rm : Nat → Int32) (p : Nat) (v : Int32) : upd (pn_O lo hi wa ic se lc rm) (p * 7 + 4) v = pn_O lo hi wa ic (upd se p v) lc rm := by
  refine pn_2_up _ _ p 4 v (by decide) ?_
  intro i
  match i with
  | 0 => rfl
  | 1 => rfl
  | 2 => rfl
  | 3 => rfl
  | 4 => rfl
  | 5 => rfl
  | 6 => rfl
  | m + 7 => exact (if_neg (by omega)).symm
theorem pn_O_a5 (lo hi wa ic se lc rm : Nat → Int32) (p : Nat) : pn_O lo hi wa ic se lc rm (p * 7 + 5) = lc p := pn_2_at _ p 5 (by decide)
theorem pn_O_u5 (lo hi wa ic se lc rm : Nat → Int32) (p : Nat) (v : Int32) : upd (pn_O lo hi wa ic se lc rm) (p * 7 + 5) v = pn_O lo hi wa ic se (upd lc p v) rm := by
  refine pn_2_up _ _ p 5 v (by decide) ?_
  intro i
  match i with
  | 0 => rfl
  | 1 => rfl
  | 2 => rfl
  | 3 => rfl
  | 4 => rfl
  | 5 => rfl
  | 6 => rfl
  | m + 7 => exact (if_neg (by omega)).symm
theorem pn_O_a6 (lo hi wa ic se lc rm : Nat → Int32) (p : Nat) : pn_O lo hi wa ic se lc rm (p * 7 + 6) = rm p := pn_2_at _ p 6 (by decide)
theorem pn_O_u6 (lo hi wa ic se lc rm : Nat → Int32) (p : Nat) (v : Int32) : upd (pn_O lo hi wa ic se lc rm) (p * 7 + 6) v = pn_O lo hi wa ic se lc (upd rm p v) := by
  refine pn_2_up _ _ p 6 v (by decide) ?_
  intro i
  match i with
  | 0 => rfl
  | 1 => rfl
  | 2 => rfl
  | 3 => rfl
  | 4 => rfl
  | 5 => rfl
  | 6 => rfl
  | m + 7 => exact (if_neg (by omega)).symm
theorem pn_O_0 : (fun _ => 0 : Nat → Int32) = pn_O (fun _ => 0) (fun _ => 0) (fun _ => 0) (fun _ => 0) (fun _ => 0) (fun _ => 0) (fun _ => 0) := by
  funext j
  show (0 : Int32) = pn_2 7 _ j
  unfold pn_2
  dsimp only
  generalize j % 7 = a
  match a with
  | 0 => rfl
  | 1 => rfl
  | 2 => rfl
  | 3 => rfl
  | 4 => rfl
  | 5 => rfl
  | 6 => rfl
  | m + 7 => rfl
def pn_sh (w : Nat → Int32) (b n : Nat) : Nat → Int32 := fun j => if b ≤ j ∧ j < b + n then w (j + 7) else w j
theorem pn_sh0 (w : Nat → Int32) (b : Nat) : pn_sh w b 0 = w := by
  funext j
  show (if b ≤ j ∧ j < b + 0 then w (j + 7) else w j) = w j
  rw [if_neg (by omega)]
theorem pn_shs (w : Nat → Int32) (b n : Nat) : upd (pn_sh w b n) (b + n) (pn_sh w b n (b + n + 7)) = pn_sh w b (n + 1) := by
  funext j
  show (if j = b + n then (if b ≤ b + n + 7 ∧ b + n + 7 < b + n then w (b + n + 7 + 7) else w (b + n + 7)) else if b ≤ j ∧ j < b + n then w (j + 7) else w j) = if b ≤ j ∧ j < b + (n + 1) then w (j + 7) else w j
  rw [if_neg (by omega : ¬ (b ≤ b + n + 7 ∧ b + n + 7 < b + n))]
  by_cases h : j = b + n
  · rw [if_pos h, if_pos (by omega), h]
  · rw [if_neg h]
    by_cases h2 : b ≤ j ∧ j < b + n
    · rw [if_pos h2, if_pos (by omega)]
    · rw [if_neg h2, if_neg (by omega)]
end
section
def pn_4 (f : Nat → Int32) (b : Nat) (m : Nat → Int32) : Nat → Int32 := upd (upd (upd (upd f (b + 0) (m 0)) (b + 1) (m 1)) (b + 2) (m 2)) (b + 3) (m 3)
theorem pn_4_0 (f : Nat → Int32) (b : Nat) (m : Nat → Int32) : pn_4 f b m (b + 0) = m 0 := by
  unfold pn_4
  rw [pn_ne _ _ (by omega), pn_ne _ _ (by omega), pn_ne _ _ (by omega), pn_at]
theorem pn_4_1 (f : Nat → Int32) (b : Nat) (m : Nat → Int32) : pn_4 f b m (b + 1) = m 1 := by
  unfold pn_4
  rw [pn_ne _ _ (by omega), pn_ne _ _ (by omega), pn_at]
theorem pn_4_2 (f : Nat → Int32) (b : Nat) (m : Nat → Int32) : pn_4 f b m (b + 2) = m 2 := by
  unfold pn_4
  rw [pn_ne _ _ (by omega), pn_at]
theorem pn_4_3 (f : Nat → Int32) (b : Nat) (m : Nat → Int32) : pn_4 f b m (b + 3) = m 3 := by
  unfold pn_4
  rw [pn_at]
theorem pn_4_p {R : Int32 → Prop} {f : Nat → Int32} {b : Nat} {m : Nat → Int32} (hm : ∀ k, k < 4 → R (m k)) {j : Nat} (hf : R (f j)) : R (pn_4 f b m j) := by
  unfold pn_4
  by_cases h3 : j = b + 3
  · rw [h3, pn_at]; exact hm 3 (by decide)
  · rw [pn_ne _ _ h3]
    by_cases h2 : j = b + 2
    · rw [h2, pn_at]; exact hm 2 (by decide)
    · rw [pn_ne _ _ h2]
      by_cases h1 : j = b + 1
      · rw [h1, pn_at]; exact hm 1 (by decide)
      · rw [pn_ne _ _ h1]
        by_cases h0 : j = b + 0
        · rw [h0, pn_at]; exact hm 0 (by decide)
        · rw [pn_ne _ _ h0]; exact hf
def pn_7 (f : Nat → Int32) (b : Nat) (m : Nat → Int32) : Nat → Int32 := upd (upd (upd (upd (upd (upd (upd f (b + 0) (m 0)) (b + 1) (m 1)) (b + 2) (m 2)) (b + 3) (m 3)) (b + 4) (m 4)) (b + 5) (m 5)) (b + 6) (m 6)
def pn_l7 (f : Nat → Int32) (m : Nat → Int32) : Nat → Int32 := upd (upd (upd (upd (upd (upd (upd f 0 (m 0)) 1 (m 1)) 2 (m 2)) 3 (m 3)) 4 (m 4)) 5 (m 5)) 6 (m 6)
theorem pn_l7_at (f m : Nat → Int32) {k : Nat} (hk : k < 7) : pn_l7 f m k = m k := by
  have h : k = 0 ∨ k = 1 ∨ k = 2 ∨ k = 3 ∨ k = 4 ∨ k = 5 ∨ k = 6 := by omega
  rcases h with rfl | rfl | rfl | rfl | rfl | rfl | rfl <;> rfl
def pn_m (c i d x0 x1 x2 x3 : Int32) : Nat → Int32 := fun f => match f with | 0 => c | 1 => i | 2 => d | 3 => x0 | 4 => x1 | 5 => x2 | _ => x3
def pn_aw (w q : Nat → Int32) (d : Nat) (c i dt x0 x1 x2 x3 : Int32) : Nat → Int32 := if q d < 8 then pn_7 w (d * 56 + (q d).toNatClampNeg * 7) (pn_m c i dt x0 x1 x2 x3) else w
def pn_aq (q : Nat → Int32) (d : Nat) : Nat → Int32 := if q d < 8 then upd q d (q d + 1) else q
theorem pn_aw_lt {w q : Nat → Int32} {d s : Nat} {c i dt x0 x1 x2 x3 : Int32} (hs : q d = nI s) (h8 : s < 8) : pn_aw w q d c i dt x0 x1 x2 x3 = pn_7 w (d * 56 + s * 7) (pn_m c i dt x0 x1 x2 x3) := by
  unfold pn_aw
  rw [hs, if_pos (show nI s < 8 from nI_lt (b := 8) h8 (by decide)), nI_clamp (by omega)]
theorem pn_aq_lt {q : Nat → Int32} {d s : Nat} (hs : q d = nI s) (h8 : s < 8) : pn_aq q d = upd q d (q d + 1) := by
  unfold pn_aq
  rw [if_pos (by rw [hs]; exact nI_lt (b := 8) h8 (by decide))]
theorem pn_n8 {s : Nat} (h8 : ¬ s < 8) (hs8 : s ≤ 8) : ¬ nI s < 8 := nI_nlt (b := 8) (by omega) (by omega)
theorem pn_aw_ge {w q : Nat → Int32} {d s : Nat} {c i dt x0 x1 x2 x3 : Int32} (hs : q d = nI s) (h8 : ¬ s < 8) (hs8 : s ≤ 8) : pn_aw w q d c i dt x0 x1 x2 x3 = w := by
  unfold pn_aw
  rw [hs, if_neg (pn_n8 h8 hs8)]
theorem pn_aq_ge {q : Nat → Int32} {d s : Nat} (hs : q d = nI s) (h8 : ¬ s < 8) (hs8 : s ≤ 8) : pn_aq q d = q := by
  unfold pn_aq
  rw [hs, if_neg (pn_n8 h8 hs8)]
def pn_sp (rs : Nat → Int32) (p : Nat) : Nat → Int32 := if rs p ≤ 0 then rs else upd rs p (rs p - 1)
def pn_hi (hi : Nat → Int32) (p : Nat) : Nat → Int32 := fun k => hi (p * 4 + k)
def pn_in (lo hi : Nat → Int32) (p : Nat) : Nat → Int32 := fun k => if hi (p * 4 + k) < lo (p * 4 + k) then 0 else 1
def pn_g (ic wa : Nat → Int32) (p : Nat) : Nat → Int32 := fun k => if ic (p * 4 + k) = 0 then -1 else wa (p * 4 + k)
def pn_cl (v l g : Int32) : Int32 := if l ≤ v then (if v ≤ g then v else g) else l
def pn_aW (c : Int32) (m lo hi wa : Nat → Int32) (p : Nat) : Nat → Int32 := fun k => if m (3 + k) = -1 then wa (p * 4 + k) else if c = 3 then pn_cl (m (3 + k)) (lo (p * 4 + k)) (hi (p * 4 + k)) else wa (p * 4 + k)
def pn_aI (c : Int32) (m ic : Nat → Int32) (p : Nat) : Nat → Int32 := fun k => if m (3 + k) = -1 then ic (p * 4 + k) else if c = 3 then ic (p * 4 + k) else 0
theorem pn_b0 : vp_nar .boolean 0 = 0 := by decide
theorem pn_b1 : vp_nar .boolean 1 = 1 := by decide
def pn_P (P : Int32) (p : Nat) : Prop := (P = 0 ∧ p = 0) ∨ (P = 1 ∧ p = 1)
theorem pp_0 : pn_P 0 0 := Or.inl ⟨rfl, rfl⟩
theorem pp_1 : pn_P 1 1 := Or.inr ⟨rfl, rfl⟩
theorem pp_lt {P : Int32} {p : Nat} (H : pn_P P p) : p < 2 := by
  rcases H with ⟨_, rfl⟩ | ⟨_, rfl⟩ <;> decide
theorem pp_n {P : Int32} {p : Nat} (H : pn_P P p) : P.toNatClampNeg = p := by
  rcases H with ⟨rfl, rfl⟩ | ⟨rfl, rfl⟩ <;> decide
theorem pp_v {P : Int32} {p : Nat} (H : pn_P P p) : vp_in P 2 := by
  rcases H with ⟨rfl, rfl⟩ | ⟨rfl, rfl⟩ <;> exact vp_in_iff.mpr (by decide)
theorem pp_nI {P : Int32} {p : Nat} (H : pn_P P p) : P = nI p := by
  rcases H with ⟨rfl, rfl⟩ | ⟨rfl, rfl⟩ <;> rfl
theorem pp_40 {P : Int32} {p : Nat} (H : pn_P P p) : P * 4 = nI (p * 4) := by
  rcases H with ⟨rfl, rfl⟩ | ⟨rfl, rfl⟩ <;> decide
theorem pp_b0 {P : Int32} {p : Nat} (H : pn_P P p) : (P * 8) * 7 = nI (p * 56) := by
  rcases H with ⟨rfl, rfl⟩ | ⟨rfl, rfl⟩ <;> decide
theorem pp_y0 {P : Int32} {p : Nat} (H : pn_P P p) : P * 56 = nI (p * 56) := by
  rcases H with ⟨rfl, rfl⟩ | ⟨rfl, rfl⟩ <;> decide
theorem pn_mul (a b : Nat) : nI a * nI b = nI (a * b) := (Int32.ofNat_mul a b).symm
theorem pp_b {P : Int32} {p s : Nat} (H : pn_P P p) : ((P * 8) + nI s) * 7 = nI (p * 56 + s * 7) := by
  have e : P * 8 = nI (p * 8) := by rcases H with ⟨rfl, rfl⟩ | ⟨rfl, rfl⟩ <;> decide
  rw [e, nI_add]
  have e2 : nI (p * 8 + s) * 7 = nI ((p * 8 + s) * 7) := pn_mul _ 7
  rw [e2]
  congr 1
  omega
theorem pp_y {P : Int32} {p s : Nat} (H : pn_P P p) : (P * 56) + (nI s * 7) = nI (p * 56 + s * 7) := by
  have e2 : nI s * 7 = nI (s * 7) := pn_mul _ 7
  rw [pp_y0 H, e2, nI_add]
theorem pp_i0 {P : Int32} {p : Nat} (H : pn_P P p) : (P * 13).toNatClampNeg = p * 13 + 0 := by
  rcases H with ⟨rfl, rfl⟩ | ⟨rfl, rfl⟩ <;> decide
theorem pp_vi0 {P : Int32} {p : Nat} (H : pn_P P p) : vp_in (P * 13) 26 := by
  rcases H with ⟨rfl, rfl⟩ | ⟨rfl, rfl⟩ <;> exact vp_in_iff.mpr (by decide)
theorem pp_i1 {P : Int32} {p : Nat} (H : pn_P P p) : ((P * 13) + 1).toNatClampNeg = p * 13 + 1 := by
  rcases H with ⟨rfl, rfl⟩ | ⟨rfl, rfl⟩ <;> decide
theorem pp_vi1 {P : Int32} {p : Nat} (H : pn_P P p) : vp_in ((P * 13) + 1) 26 := by
  rcases H with ⟨rfl, rfl⟩ | ⟨rfl, rfl⟩ <;> exact vp_in_iff.mpr (by decide)
theorem pp_i2 {P : Int32} {p : Nat} (H : pn_P P p) : ((P * 13) + 2).toNatClampNeg = p * 13 + 2 := by
  rcases H with ⟨rfl, rfl⟩ | ⟨rfl, rfl⟩ <;> decide
theorem pp_vi2 {P : Int32} {p : Nat} (H : pn_P P p) : vp_in ((P * 13) + 2) 26 := by
  rcases H with ⟨rfl, rfl⟩ | ⟨rfl, rfl⟩ <;> exact vp_in_iff.mpr (by decide)
theorem pp_i3 {P : Int32} {p : Nat} (H : pn_P P p) : ((P * 13) + 3).toNatClampNeg = p * 13 + 3 := by
  rcases H with ⟨rfl, rfl⟩ | ⟨rfl, rfl⟩ <;> decide
theorem pp_vi3 {P : Int32} {p : Nat} (H : pn_P P p) : vp_in ((P * 13) + 3) 26 := by
  rcases H with ⟨rfl, rfl⟩ | ⟨rfl, rfl⟩ <;> exact vp_in_iff.mpr (by decide)
theorem pp_i4 {P : Int32} {p : Nat} (H : pn_P P p) : ((P * 13) + 4).toNatClampNeg = p * 13 + 4 := by
  rcases H with ⟨rfl, rfl⟩ | ⟨rfl, rfl⟩ <;> decide
theorem pp_vi4 {P : Int32} {p : Nat} (H : pn_P P p) : vp_in ((P * 13) + 4) 26 := by
  rcases H with ⟨rfl, rfl⟩ | ⟨rfl, rfl⟩ <;> exact vp_in_iff.mpr (by decide)
theorem pp_i5 {P : Int32} {p : Nat} (H : pn_P P p) : ((P * 13) + 5).toNatClampNeg = p * 13 + 5 := by
  rcases H with ⟨rfl, rfl⟩ | ⟨rfl, rfl⟩ <;> decide
theorem pp_vi5 {P : Int32} {p : Nat} (H : pn_P P p) : vp_in ((P * 13) + 5) 26 := by
  rcases H with ⟨rfl, rfl⟩ | ⟨rfl, rfl⟩ <;> exact vp_in_iff.mpr (by decide)
theorem pp_i6 {P : Int32} {p : Nat} (H : pn_P P p) : ((P * 13) + 6).toNatClampNeg = p * 13 + 6 := by
  rcases H with ⟨rfl, rfl⟩ | ⟨rfl, rfl⟩ <;> decide
theorem pp_vi6 {P : Int32} {p : Nat} (H : pn_P P p) : vp_in ((P * 13) + 6) 26 := by
  rcases H with ⟨rfl, rfl⟩ | ⟨rfl, rfl⟩ <;> exact vp_in_iff.mpr (by decide)
theorem pp_i7 {P : Int32} {p : Nat} (H : pn_P P p) : ((P * 13) + 7).toNatClampNeg = p * 13 + 7 := by
  rcases H with ⟨rfl, rfl⟩ | ⟨rfl, rfl⟩ <;> decide
theorem pp_vi7 {P : Int32} {p : Nat} (H : pn_P P p) : vp_in ((P * 13) + 7) 26 := by
  rcases H with ⟨rfl, rfl⟩ | ⟨rfl, rfl⟩ <;> exact vp_in_iff.mpr (by decide)
theorem pp_i8 {P : Int32} {p : Nat} (H : pn_P P p) : ((P * 13) + 8).toNatClampNeg = p * 13 + 8 := by
  rcases H with ⟨rfl, rfl⟩ | ⟨rfl, rfl⟩ <;> decide
theorem pp_vi8 {P : Int32} {p : Nat} (H : pn_P P p) : vp_in ((P * 13) + 8) 26 := by
  rcases H with ⟨rfl, rfl⟩ | ⟨rfl, rfl⟩ <;> exact vp_in_iff.mpr (by decide)
theorem pp_i9 {P : Int32} {p : Nat} (H : pn_P P p) : ((P * 13) + 9).toNatClampNeg = p * 13 + 9 := by
  rcases H with ⟨rfl, rfl⟩ | ⟨rfl, rfl⟩ <;> decide
theorem pp_vi9 {P : Int32} {p : Nat} (H : pn_P P p) : vp_in ((P * 13) + 9) 26 := by
  rcases H with ⟨rfl, rfl⟩ | ⟨rfl, rfl⟩ <;> exact vp_in_iff.mpr (by decide)
theorem pp_i10 {P : Int32} {p : Nat} (H : pn_P P p) : ((P * 13) + 10).toNatClampNeg = p * 13 + 10 := by
  rcases H with ⟨rfl, rfl⟩ | ⟨rfl, rfl⟩ <;> decide
theorem pp_vi10 {P : Int32} {p : Nat} (H : pn_P P p) : vp_in ((P * 13) + 10) 26 := by
  rcases H with ⟨rfl, rfl⟩ | ⟨rfl, rfl⟩ <;> exact vp_in_iff.mpr (by decide)
theorem pp_i11 {P : Int32} {p : Nat} (H : pn_P P p) : ((P * 13) + 11).toNatClampNeg = p * 13 + 11 := by
  rcases H with ⟨rfl, rfl⟩ | ⟨rfl, rfl⟩ <;> decide
theorem pp_vi11 {P : Int32} {p : Nat} (H : pn_P P p) : vp_in ((P * 13) + 11) 26 := by
  rcases H with ⟨rfl, rfl⟩ | ⟨rfl, rfl⟩ <;> exact vp_in_iff.mpr (by decide)
theorem pp_i12 {P : Int32} {p : Nat} (H : pn_P P p) : ((P * 13) + 12).toNatClampNeg = p * 13 + 12 := by
  rcases H with ⟨rfl, rfl⟩ | ⟨rfl, rfl⟩ <;> decide
theorem pp_vi12 {P : Int32} {p : Nat} (H : pn_P P p) : vp_in ((P * 13) + 12) 26 := by
  rcases H with ⟨rfl, rfl⟩ | ⟨rfl, rfl⟩ <;> exact vp_in_iff.mpr (by decide)
theorem pp_k4 {k : Nat} (hk : k < 4) : k = 0 ∨ k = 1 ∨ k = 2 ∨ k = 3 := by omega
theorem pp_4 {P : Int32} {p k : Nat} (H : pn_P P p) (hk : k < 4) : ((P * 4) + nI k).toNatClampNeg = p * 4 + k := by
  rw [pp_40 H, nI_add, nI_clamp (by have := pp_lt H; omega)]
theorem pp_v4 {P : Int32} {p k : Nat} (H : pn_P P p) (hk : k < 4) : vp_in ((P * 4) + nI k) 8 := by
  rw [pp_40 H, nI_add]
  exact vp_in_nI (by have := pp_lt H; omega) (by decide)
theorem pp_o {P : Int32} {p k : Nat} (H : pn_P P p) : ((P * 4) + nI k) * 7 = nI ((p * 4 + k) * 7) := by
  rw [pp_40 H, nI_add]
  exact pn_mul _ 7
theorem pp_o0 {P : Int32} {p k : Nat} (H : pn_P P p) (hk : k < 4) : (((P * 4) + nI k) * 7).toNatClampNeg = (p * 4 + k) * 7 + 0 := by
  rw [pp_o H, nI_clamp (by have := pp_lt H; omega)]; rfl
theorem pp_vo0 {P : Int32} {p k : Nat} (H : pn_P P p) (hk : k < 4) : vp_in (((P * 4) + nI k) * 7) 56 := by
  rw [pp_o H]; exact vp_in_nI (by have := pp_lt H; omega) (by decide)
theorem pp_o1 {P : Int32} {p k : Nat} (H : pn_P P p) (hk : k < 4) : ((((P * 4) + nI k) * 7) + 1).toNatClampNeg = (p * 4 + k) * 7 + 1 := by
  rw [pp_o H, show nI ((p * 4 + k) * 7) + 1 = nI ((p * 4 + k) * 7 + 1) from nI_add _ 1, nI_clamp (by have := pp_lt H; omega)]
theorem pp_vo1 {P : Int32} {p k : Nat} (H : pn_P P p) (hk : k < 4) : vp_in ((((P * 4) + nI k) * 7) + 1) 56 := by
  rw [pp_o H, show nI ((p * 4 + k) * 7) + 1 = nI ((p * 4 + k) * 7 + 1) from nI_add _ 1]; exact vp_in_nI (by have := pp_lt H; omega) (by decide)
theorem pp_o2 {P : Int32} {p k : Nat} (H : pn_P P p) (hk : k < 4) : ((((P * 4) + nI k) * 7) + 2).toNatClampNeg = (p * 4 + k) * 7 + 2 := by
  rw [pp_o H, show nI ((p * 4 + k) * 7) + 2 = nI ((p * 4 + k) * 7 + 2) from nI_add _ 2, nI_clamp (by have := pp_lt H; omega)]
theorem pp_vo2 {P : Int32} {p k : Nat} (H : pn_P P p) (hk : k < 4) : vp_in ((((P * 4) + nI k) * 7) + 2) 56 := by
  rw [pp_o H, show nI ((p * 4 + k) * 7) + 2 = nI ((p * 4 + k) * 7 + 2) from nI_add _ 2]; exact vp_in_nI (by have := pp_lt H; omega) (by decide)
theorem pp_o3 {P : Int32} {p k : Nat} (H : pn_P P p) (hk : k < 4) : ((((P * 4) + nI k) * 7) + 3).toNatClampNeg = (p * 4 + k) * 7 + 3 := by
  rw [pp_o H, show nI ((p * 4 + k) * 7) + 3 = nI ((p * 4 + k) * 7 + 3) from nI_add _ 3, nI_clamp (by have := pp_lt H; omega)]
theorem pp_vo3 {P : Int32} {p k : Nat} (H : pn_P P p) (hk : k < 4) : vp_in ((((P * 4) + nI k) * 7) + 3) 56 := by
  rw [pp_o H, show nI ((p * 4 + k) * 7) + 3 = nI ((p * 4 + k) * 7 + 3) from nI_add _ 3]; exact vp_in_nI (by have := pp_lt H; omega) (by decide)
theorem pp_o4 {P : Int32} {p k : Nat} (H : pn_P P p) (hk : k < 4) : ((((P * 4) + nI k) * 7) + 4).toNatClampNeg = (p * 4 + k) * 7 + 4 := by
  rw [pp_o H, show nI ((p * 4 + k) * 7) + 4 = nI ((p * 4 + k) * 7 + 4) from nI_add _ 4, nI_clamp (by have := pp_lt H; omega)]
theorem pp_vo4 {P : Int32} {p k : Nat} (H : pn_P P p) (hk : k < 4) : vp_in ((((P * 4) + nI k) * 7) + 4) 56 := by
  rw [pp_o H, show nI ((p * 4 + k) * 7) + 4 = nI ((p * 4 + k) * 7 + 4) from nI_add _ 4]; exact vp_in_nI (by have := pp_lt H; omega) (by decide)
theorem pp_o5 {P : Int32} {p k : Nat} (H : pn_P P p) (hk : k < 4) : ((((P * 4) + nI k) * 7) + 5).toNatClampNeg = (p * 4 + k) * 7 + 5 := by
  rw [pp_o H, show nI ((p * 4 + k) * 7) + 5 = nI ((p * 4 + k) * 7 + 5) from nI_add _ 5, nI_clamp (by have := pp_lt H; omega)]
theorem pp_vo5 {P : Int32} {p k : Nat} (H : pn_P P p) (hk : k < 4) : vp_in ((((P * 4) + nI k) * 7) + 5) 56 := by
  rw [pp_o H, show nI ((p * 4 + k) * 7) + 5 = nI ((p * 4 + k) * 7 + 5) from nI_add _ 5]; exact vp_in_nI (by have := pp_lt H; omega) (by decide)
theorem pp_o6 {P : Int32} {p k : Nat} (H : pn_P P p) (hk : k < 4) : ((((P * 4) + nI k) * 7) + 6).toNatClampNeg = (p * 4 + k) * 7 + 6 := by
  rw [pp_o H, show nI ((p * 4 + k) * 7) + 6 = nI ((p * 4 + k) * 7 + 6) from nI_add _ 6, nI_clamp (by have := pp_lt H; omega)]
theorem pp_vo6 {P : Int32} {p k : Nat} (H : pn_P P p) (hk : k < 4) : vp_in ((((P * 4) + nI k) * 7) + 6) 56 := by
  rw [pp_o H, show nI ((p * 4 + k) * 7) + 6 = nI ((p * 4 + k) * 7 + 6) from nI_add _ 6]; exact vp_in_nI (by have := pp_lt H; omega) (by decide)
theorem pp_3 {k : Nat} (hk : k < 4) : ((3 : Int32) + nI k).toNatClampNeg = 3 + k := by
  rw [show (3 : Int32) + nI k = nI (3 + k) from nI_add 3 k, nI_clamp (by omega)]
theorem pp_v3 {k : Nat} (hk : k < 4) : vp_in ((3 : Int32) + nI k) 7 := by
  rw [show (3 : Int32) + nI k = nI (3 + k) from nI_add 3 k]; exact vp_in_nI (by omega) (by decide)
theorem pp_z (k : Nat) : (0 : Int32) + nI k = nI k := by
  have h := nI_add 0 k
  rw [Nat.zero_add] at h
  exact h
theorem pp_bk {b k : Nat} (hb : b ≤ 105) (hk : k < 7) : (nI b + nI k).toNatClampNeg = b + k := by
  rw [nI_add, nI_clamp (by omega)]
theorem pp_vbk {b k : Nat} (hb : b ≤ 105) (hk : k < 7) : vp_in (nI b + nI k) 112 := by
  rw [nI_add]; exact vp_in_nI (by omega) (by decide)
theorem pp_b3k {b k : Nat} (hb : b ≤ 105) (hk : k < 4) : ((nI b + 3) + nI k).toNatClampNeg = b + (3 + k) := by
  rw [show nI b + 3 = nI (b + 3) from nI_add b 3, nI_add, nI_clamp (by omega)]; omega
theorem pp_vb3k {b k : Nat} (hb : b ≤ 105) (hk : k < 4) : vp_in ((nI b + 3) + nI k) 112 := by
  rw [show nI b + 3 = nI (b + 3) from nI_add b 3, nI_add]; exact vp_in_nI (by omega) (by decide)
theorem pp_g4 {k : Nat} (hk : k < 4) : ¬ (4 : Int32) ≤ nI k := nI_ge (b := 4) hk (by decide)
theorem pp_g7 {k : Nat} (hk : k < 7) : ¬ (7 : Int32) ≤ nI k := nI_ge (b := 7) hk (by decide)
theorem pp_44 : (4 : Int32) ≤ nI 4 := by decide
theorem pp_77 : (7 : Int32) ≤ nI 7 := by decide
theorem pp_out {v : Int32} (h0 : ¬ v = 0) (h1 : ¬ v = 1) : v < 0 ∨ (¬ v < 0 ∧ 1 < v ∧ ¬ v ≤ 1) := by
  have z : (0 : Int32).toInt = 0 := by decide
  have o : (1 : Int32).toInt = 1 := by decide
  have n0 : ¬ v.toInt = 0 := fun e => h0 (Int32.toInt_inj.mp (e.trans z.symm))
  have n1 : ¬ v.toInt = 1 := fun e => h1 (Int32.toInt_inj.mp (e.trans o.symm))
  rw [Int32.lt_iff_toInt_lt, Int32.lt_iff_toInt_lt, Int32.le_iff_toInt_le, z, o]
  omega
def pn_tj (st ti : Nat → Int32) (p : Nat) : Nat → Int32 := if st p < 4 then upd ti p 0 else if 8 < st p then upd ti p 0 else ti
theorem pn_tj_on {st ti : Nat → Int32} {p : Nat} (h4 : ¬ st p < 4) (h8 : ¬ 8 < st p) : pn_tj st ti p = ti := by
  unfold pn_tj
  rw [if_neg h4, if_neg h8]
theorem pn_tj_off {st ti : Nat → Int32} {p : Nat} (h : st p < 4 ∨ (¬ st p < 4 ∧ 8 < st p)) : pn_tj st ti p = upd ti p 0 := by
  unfold pn_tj
  rcases h with h4 | ⟨h4, h8⟩
  · rw [if_pos h4]
  · rw [if_neg h4, if_pos h8]
theorem pn_tj_k {st ti : Nat → Int32} {p s : Nat} (es : st p = nI s) (hs9 : s ≤ 9) (ht : s < 4 ∨ 8 < s → ti p = 0) : pn_tj st ti p = ti := by
  by_cases c4 : s < 4
  · rw [pn_tj_off (Or.inl (by rw [es]; exact nI_lt (b := 4) c4 (by decide))), pn_self ti p 0 (ht (Or.inl c4))]
  · have n4 : ¬ st p < 4 := by rw [es]; exact nI_nlt (b := 4) (by omega) (by omega)
    by_cases c8 : 8 < s
    · rw [pn_tj_off (Or.inr ⟨n4, by rw [es]; exact nI_lt (a := 8) c8 (by omega)⟩), pn_self ti p 0 (ht (Or.inr c8))]
    · exact pn_tj_on n4 (by rw [es]; exact nI_nlt (a := 8) (by omega) (by omega))
def pn_VS (st ti : Nat → Int32) : Prop := ∀ p, p < 2 → ∃ s : Nat, s ≤ 9 ∧ st p = nI s ∧ (s < 4 ∨ 8 < s → ti p = 0)
def pn_VO (lo hi ic : Nat → Int32) : Prop := ∀ i, i < 8 → (0 ≤ lo i ∧ 0 ≤ hi i ∧ hi i ≤ 65535) ∧ (ic i = 0 ∨ ic i = 1)
def pn_VQ (q : Nat → Int32) : Prop := ∀ d, d < 2 → ∃ s : Nat, s ≤ 8 ∧ q d = nI s
def pn_VN (no : Nat → Int32) : Prop := no 0 = -1 ∧ no 1 = -1 ∧ no 2 = -1 ∧ no 3 = -1
def pn_V (st ti lo hi ic q no : Nat → Int32) : Prop := pn_VS st ti ∧ pn_VO lo hi ic ∧ pn_VQ q ∧ pn_VN no
theorem pn_VS_u {st ti ti' : Nat → Int32} {p n : Nat} {N : Int32} (V : pn_VS st ti) (eN : N = nI n) (hn : n ≤ 9) (ht : ∀ j, j ≠ p → ti' j = ti j) (h0 : n < 4 ∨ 8 < n → ti' p = 0) : pn_VS (upd st p N) ti' := by
  intro j hj
  by_cases e : j = p
  · refine ⟨n, hn, ?_, ?_⟩
    · rw [e, pn_at, eN]
    · rw [e]; exact h0
  · obtain ⟨s, h1, h2, h3⟩ := V j hj
    refine ⟨s, h1, ?_, ?_⟩
    · rw [pn_ne _ _ e]; exact h2
    · rw [ht j e]; exact h3
theorem pn_VS_k {st ti ti' : Nat → Int32} {p n : Nat} (V : pn_VS st ti) (hp : p < 2) (en : st p = nI n) (hn : n ≤ 9) (ht : ∀ j, j ≠ p → ti' j = ti j) (h0 : n < 4 ∨ 8 < n → ti' p = 0) : pn_VS st ti' := by
  have h := pn_VS_u (p := p) V en hn ht h0
  rw [pn_self st p (st p) rfl] at h
  exact h
theorem pn_VQ_a {q : Nat → Int32} {p : Nat} (V : pn_VQ q) (hp : p < 2) : pn_VQ (pn_aq q p) := by
  obtain ⟨s, h1, h2⟩ := V p hp
  by_cases h8 : s < 8
  · rw [pn_aq_lt h2 h8]
    intro j hj
    by_cases e : j = p
    · refine ⟨s + 1, by omega, ?_⟩
      rw [e, pn_at, h2, nI_1]
    · rw [pn_ne _ _ e]; exact V j hj
  · rw [pn_aq_ge h2 h8 h1]; exact V
theorem pn_VO_in {lo hi ic : Nat → Int32} {p : Nat} (V : pn_VO lo hi ic) : pn_VO lo hi (pn_4 ic (p * 4) (pn_in lo hi p)) := by
  intro i hi8
  refine ⟨(V i hi8).1, ?_⟩
  refine pn_4_p (R := fun x => x = 0 ∨ x = 1) ?_ (V i hi8).2
  intro k _
  show (if _ then _ else _) = (0 : Int32) ∨ (if _ then _ else _) = (1 : Int32)
  by_cases h : hi (p * 4 + k) < lo (p * 4 + k)
  · exact Or.inl (if_pos h)
  · exact Or.inr (if_neg h)
theorem pn_VO_aI {lo hi ic : Nat → Int32} {c : Int32} {m : Nat → Int32} {p : Nat} (V : pn_VO lo hi ic) (hp : p < 2) : pn_VO lo hi (pn_4 ic (p * 4) (pn_aI c m ic p)) := by
  intro i hi8
  refine ⟨(V i hi8).1, ?_⟩
  refine pn_4_p (R := fun x => x = 0 ∨ x = 1) ?_ (V i hi8).2
  intro k hk
  have h2 := (V (p * 4 + k) (by omega)).2
  unfold pn_aI
  by_cases h : m (3 + k) = -1
  · rw [if_pos h]; exact h2
  · rw [if_neg h]
    by_cases h3 : c = 3
    · rw [if_pos h3]; exact h2
    · rw [if_neg h3]; exact Or.inl rfl
end
section
def pn_fA (M se : Nat → Int32) (p k : Nat) (y : Int32) : Int32 := if M (3 + k) = se (p * 4 + k) then y else 0
def pn_fN (M se : Nat → Int32) (p k : Nat) (y : Int32) : Int32 := if M (3 + k) = -1 then y else if se (p * 4 + k) = -1 then 0 else y
def pn_fR (M se : Nat → Int32) (p k : Nat) (y : Int32) : Int32 := if M (3 + k) = -1 then y else if M (3 + k) = se (p * 4 + k) then y else 0
def pn_gA (M se : Nat → Int32) (p : Nat) (y : Int32) : Int32 := pn_fA M se p 3 (pn_fA M se p 2 (pn_fA M se p 1 (pn_fA M se p 0 y)))
def pn_gN (M se : Nat → Int32) (p : Nat) (y : Int32) : Int32 := pn_fN M se p 3 (pn_fN M se p 2 (pn_fN M se p 1 (pn_fN M se p 0 y)))
def pn_gR (M se : Nat → Int32) (p : Nat) (y : Int32) : Int32 := pn_fR M se p 3 (pn_fR M se p 2 (pn_fR M se p 1 (pn_fR M se p 0 y)))
theorem pn_fA_01 {M se : Nat → Int32} {p k : Nat} {y : Int32} (h : y = 0 ∨ y = 1) : pn_fA M se p k y = 0 ∨ pn_fA M se p k y = 1 := by
  unfold pn_fA
  split
  · exact h
  · exact Or.inl rfl
theorem pn_fN_01 {M se : Nat → Int32} {p k : Nat} {y : Int32} (h : y = 0 ∨ y = 1) : pn_fN M se p k y = 0 ∨ pn_fN M se p k y = 1 := by
  unfold pn_fN
  split
  · exact h
  · split
    · exact Or.inl rfl
    · exact h
theorem pn_fR_01 {M se : Nat → Int32} {p k : Nat} {y : Int32} (h : y = 0 ∨ y = 1) : pn_fR M se p k y = 0 ∨ pn_fR M se p k y = 1 := by
  unfold pn_fR
  split
  · exact h
  · split
    · exact h
    · exact Or.inl rfl
section PX
variable {C T F K rc : Int32} {st rs ti ni cr hc nk ms ei us dn sa fi lo hi wa ic se lc rm w q ih vd ro no : Nat → Int32} {P : Int32} {p : Nat} {post : St2 → Prop}
variable {post1 : Int32 → Prop} {u0 : St0}
theorem xa_clamp {v l g : Int32} (h : post1 (pn_cl v l g)) : wpX_clamp post1 u0 v l g := by
  unfold pn_cl at h
  refine br_c (fun h1 => ?_) (fun h1 => ?_)
  · rw [if_pos h1] at h
    refine br_c (fun h2 => ?_) (fun h2 => ?_)
    · rw [if_pos h2] at h; exact h
    · rw [if_neg h2] at h; exact h
  · rw [if_neg h1] at h; exact h
theorem xa_end1 (HP : pn_P P p) (h : post1 1) : wpX_isEnd post1 u0 P := by
  rcases HP with ⟨rfl, _⟩ | ⟨rfl, _⟩
  · exact br_t rfl h
  · exact br_f (by decide) (br_t rfl h)
theorem xa_end0 {v : Int32} (h0 : ¬ v = 0) (h1 : ¬ v = 1) (h : post1 0) : wpX_isEnd post1 u0 v := br_f h0 (br_f h1 h)
theorem xs_start (HP : pn_P P p) {n k : Nat} (hk : k < 4) (h : wX_startNegotiation_2 post P C T F K rc n (nI (k + 1)) st rs ti ni cr hc nk ms ei us dn sa fi lo hi (upd wa (p * 4 + k) (hi (p * 4 + k))) (upd ic (p * 4 + k) (pn_in lo hi p k)) se lc rm w q ih vd ro no) : wX_startNegotiation_2 post P C T F K rc (n + 1) (nI k) st rs ti ni cr hc nk ms ei us dn sa fi lo hi wa ic se lc rm w q ih vd ro no := by
  refine br_f (pp_g4 hk) ?_
  intro x3 e3
  have e4 : x3.toNatClampNeg = p * 4 + k := by rw [e3, pp_4 HP hk]
  have v4 : vp_in x3 8 := by rw [e3]; exact pp_v4 HP hk
  rw [e4]
  refine ⟨v4, v4, ?_⟩
  intro a ea
  refine ⟨v4, v4, ?_⟩
  by_cases hc1 : hi (p * 4 + k) < lo (p * 4 + k)
  · refine br_t hc1 ⟨v4, ?_⟩
    intro b eb x ex
    rw [show pn_in lo hi p k = 0 from if_pos hc1] at h
    rw [nI_1] at ex
    subst ea eb ex
    exact h
  · refine br_f hc1 ⟨v4, ?_⟩
    intro b eb x ex
    rw [show pn_in lo hi p k = 1 from if_neg hc1] at h
    rw [nI_1] at ex
    subst ea eb ex
    exact h
theorem xe_start (HP : pn_P P p) {n : Nat} (h : post (C, T, F, K, rc, st, rs, ti, ni, cr, hc, upd nk p 0, ms, ei, us, dn, sa, fi, lo, hi, wa, ic, se, lc, rm, w, q, ih, vd, ro, no)) : wX_startNegotiation_2 post P C T F K rc (n + 1) (nI 4) st rs ti ni cr hc nk ms ei us dn sa fi lo hi wa ic se lc rm w q ih vd ro no := by
  refine br_t pp_44 ⟨pp_v HP, ?_⟩
  rw [pp_n HP]
  exact nm_e h
theorem xa_start (HP : pn_P P p) (h : post (C, T, F, K, rc, st, rs, ti, ni, cr, hc, upd nk p 0, ms, ei, us, dn, sa, fi, lo, hi, pn_4 wa (p * 4) (pn_hi hi p), pn_4 ic (p * 4) (pn_in lo hi p), se, lc, rm, w, q, ih, vd, ro, no)) : wpX_startNegotiation post (C, T, F, K, rc, st, rs, ti, ni, cr, hc, nk, ms, ei, us, dn, sa, fi, lo, hi, wa, ic, se, lc, rm, w, q, ih, vd, ro, no) P :=
  ⟨5, xs_start HP (k := 0) (by decide) (xs_start HP (k := 1) (by decide) (xs_start HP (k := 2) (by decide) (xs_start HP (k := 3) (by decide) (xe_start HP h))))⟩
theorem xa_spend (HP : pn_P P p) (h : post (C, T, F, K, rc, st, pn_sp rs p, upd ti p K, ni, cr, hc, nk, ms, ei, us, dn, sa, fi, lo, hi, wa, ic, se, lc, rm, w, q, ih, vd, ro, no)) : wpX_spendRequest post (C, T, F, K, rc, st, rs, ti, ni, cr, hc, nk, ms, ei, us, dn, sa, fi, lo, hi, wa, ic, se, lc, rm, w, q, ih, vd, ro, no) P := by
  have pv := pp_v HP
  unfold wpX_spendRequest
  refine ⟨pv, ?_⟩
  rw [pp_n HP]
  by_cases hr : rs p ≤ 0
  · rw [show pn_sp rs p = rs from if_pos hr] at h
    exact br_t hr ⟨pv, nm_e h⟩
  · rw [show pn_sp rs p = upd rs p (rs p - 1) from if_neg hr] at h
    exact br_f hr ⟨pv, pv, nm_e ⟨pv, nm_e h⟩⟩
theorem xs_app_no (HP : pn_P P p) {n b k : Nat} (hb : b ≤ 105) (hk : k < 4) (h : wX_append_2_62 post P 0 (nI b) C T F K rc n (nI (k + 1)) st rs ti ni cr hc nk ms ei us dn sa fi lo hi wa ic se lc rm (upd w (b + (3 + k)) (no (k))) q ih vd ro no) : wX_append_2_62 post P 0 (nI b) C T F K rc (n + 1) (nI k) st rs ti ni cr hc nk ms ei us dn sa fi lo hi wa ic se lc rm w q ih vd ro no := by
  refine br_f (pp_g4 hk) ?_
  rw [pp_z k, nI_clamp (n := k) (by omega), pp_b3k hb hk]
  refine ⟨vp_in_nI hk (by decide), pp_vb3k hb hk, ?_⟩
  intro a ea x ex
  rw [nI_1] at ex
  subst ea ex
  exact h
theorem xe_app_no (HP : pn_P P p) {n b : Nat} (h : post (C, T, F, K, rc, st, rs, ti, ni, cr, hc, nk, ms, ei, us, dn, sa, fi, lo, hi, wa, ic, se, lc, rm, w, upd q p (q p + 1), ih, vd, ro, no)) : wX_append_2_62 post P 0 (nI b) C T F K rc (n + 1) (nI 4) st rs ti ni cr hc nk ms ei us dn sa fi lo hi wa ic se lc rm w q ih vd ro no := by
  refine br_t pp_44 ⟨pp_v HP, pp_v HP, ?_⟩
  rw [pp_n HP]
  exact nm_e h
theorem xa_app_no (HP : pn_P P p) {s : Nat} (hs : q p = nI s) (hs8 : s ≤ 8) {c i d : Int32} (h : post (C, T, F, K, rc, st, rs, ti, ni, cr, hc, nk, ms, ei, us, dn, sa, fi, lo, hi, wa, ic, se, lc, rm, pn_aw w q p c i d (no 0) (no 1) (no 2) (no 3), pn_aq q p, ih, vd, ro, no)) : wpX_append_2 post (C, T, F, K, rc, st, rs, ti, ni, cr, hc, nk, ms, ei, us, dn, sa, fi, lo, hi, wa, ic, se, lc, rm, w, q, ih, vd, ro, no) P c i d 0 := by
  have pv := pp_v HP
  unfold wpX_append_2
  refine ⟨pv, ?_⟩
  rw [pp_n HP, hs]
  by_cases h8 : s < 8
  · have hb : p * 56 + s * 7 ≤ 105 := by have := pp_lt HP; omega
    rw [pn_aw_lt hs h8, pn_aq_lt hs h8] at h
    refine br_t (nI_lt (b := 8) h8 (by decide)) ⟨pv, ?_⟩
    intro x7 e7
    rw [pp_b HP] at e7
    subst e7
    have b0 : (nI (p * 56 + s * 7) + 0).toNatClampNeg = p * 56 + s * 7 + 0 := pp_bk (k := 0) hb (by decide)
    have b1 : (nI (p * 56 + s * 7) + 1).toNatClampNeg = p * 56 + s * 7 + 1 := pp_bk (k := 1) hb (by decide)
    have b2 : (nI (p * 56 + s * 7) + 2).toNatClampNeg = p * 56 + s * 7 + 2 := pp_bk (k := 2) hb (by decide)
    rw [b0, b1, b2]
    refine ⟨pp_vbk (k := 0) hb (by decide), nm_e ⟨pp_vbk (k := 1) hb (by decide), nm_e ⟨pp_vbk (k := 2) hb (by decide), nm_e ?_⟩⟩⟩
    exact ⟨5, xs_app_no HP hb (k := 0) (by decide) (xs_app_no HP hb (k := 1) (by decide) (xs_app_no HP hb (k := 2) (by decide) (xs_app_no HP hb (k := 3) (by decide) (xe_app_no HP h))))⟩
  · rw [pn_aw_ge hs h8 hs8, pn_aq_ge hs h8 hs8] at h
    exact br_f (pn_n8 h8 hs8) h
theorem xs_app_ro (HP : pn_P P p) {n b k : Nat} (hb : b ≤ 105) (hk : k < 4) (h : wX_append_4_62 post P 0 (nI b) C T F K rc n (nI (k + 1)) st rs ti ni cr hc nk ms ei us dn sa fi lo hi wa ic se lc rm (upd w (b + (3 + k)) (ro (k))) q ih vd ro no) : wX_append_4_62 post P 0 (nI b) C T F K rc (n + 1) (nI k) st rs ti ni cr hc nk ms ei us dn sa fi lo hi wa ic se lc rm w q ih vd ro no := by
  refine br_f (pp_g4 hk) ?_
  rw [pp_z k, nI_clamp (n := k) (by omega), pp_b3k hb hk]
  refine ⟨vp_in_nI hk (by decide), pp_vb3k hb hk, ?_⟩
  intro a ea x ex
  rw [nI_1] at ex
  subst ea ex
  exact h
theorem xe_app_ro (HP : pn_P P p) {n b : Nat} (h : post (C, T, F, K, rc, st, rs, ti, ni, cr, hc, nk, ms, ei, us, dn, sa, fi, lo, hi, wa, ic, se, lc, rm, w, upd q p (q p + 1), ih, vd, ro, no)) : wX_append_4_62 post P 0 (nI b) C T F K rc (n + 1) (nI 4) st rs ti ni cr hc nk ms ei us dn sa fi lo hi wa ic se lc rm w q ih vd ro no := by
  refine br_t pp_44 ⟨pp_v HP, pp_v HP, ?_⟩
  rw [pp_n HP]
  exact nm_e h
theorem xa_app_ro (HP : pn_P P p) {s : Nat} (hs : q p = nI s) (hs8 : s ≤ 8) {c i d : Int32} (h : post (C, T, F, K, rc, st, rs, ti, ni, cr, hc, nk, ms, ei, us, dn, sa, fi, lo, hi, wa, ic, se, lc, rm, pn_aw w q p c i d (ro 0) (ro 1) (ro 2) (ro 3), pn_aq q p, ih, vd, ro, no)) : wpX_append_4 post (C, T, F, K, rc, st, rs, ti, ni, cr, hc, nk, ms, ei, us, dn, sa, fi, lo, hi, wa, ic, se, lc, rm, w, q, ih, vd, ro, no) P c i d 0 := by
  have pv := pp_v HP
  unfold wpX_append_4
  refine ⟨pv, ?_⟩
  rw [pp_n HP, hs]
  by_cases h8 : s < 8
  · have hb : p * 56 + s * 7 ≤ 105 := by have := pp_lt HP; omega
    rw [pn_aw_lt hs h8, pn_aq_lt hs h8] at h
    refine br_t (nI_lt (b := 8) h8 (by decide)) ⟨pv, ?_⟩
    intro x7 e7
    rw [pp_b HP] at e7
    subst e7
    have b0 : (nI (p * 56 + s * 7) + 0).toNatClampNeg = p * 56 + s * 7 + 0 := pp_bk (k := 0) hb (by decide)
    have b1 : (nI (p * 56 + s * 7) + 1).toNatClampNeg = p * 56 + s * 7 + 1 := pp_bk (k := 1) hb (by decide)
    have b2 : (nI (p * 56 + s * 7) + 2).toNatClampNeg = p * 56 + s * 7 + 2 := pp_bk (k := 2) hb (by decide)
    rw [b0, b1, b2]
    refine ⟨pp_vbk (k := 0) hb (by decide), nm_e ⟨pp_vbk (k := 1) hb (by decide), nm_e ⟨pp_vbk (k := 2) hb (by decide), nm_e ?_⟩⟩⟩
    exact ⟨5, xs_app_ro HP hb (k := 0) (by decide) (xs_app_ro HP hb (k := 1) (by decide) (xs_app_ro HP hb (k := 2) (by decide) (xs_app_ro HP hb (k := 3) (by decide) (xe_app_ro HP h))))⟩
  · rw [pn_aw_ge hs h8 hs8, pn_aq_ge hs h8 hs8] at h
    exact br_f (pn_n8 h8 hs8) h
theorem xs_app_se (HP : pn_P P p) {n b k : Nat} (hb : b ≤ 105) (hk : k < 4) (h : wX_append_62 post P (nI (p * 4)) (nI b) C T F K rc n (nI (k + 1)) st rs ti ni cr hc nk ms ei us dn sa fi lo hi wa ic se lc rm (upd w (b + (3 + k)) (se (p * 4 + k))) q ih vd ro no) : wX_append_62 post P (nI (p * 4)) (nI b) C T F K rc (n + 1) (nI k) st rs ti ni cr hc nk ms ei us dn sa fi lo hi wa ic se lc rm w q ih vd ro no := by
  refine br_f (pp_g4 hk) ?_
  rw [nI_add (p * 4) k, nI_clamp (n := p * 4 + k) (by have := pp_lt HP; omega), pp_b3k hb hk]
  refine ⟨vp_in_nI (by have := pp_lt HP; omega) (by decide), pp_vb3k hb hk, ?_⟩
  intro a ea x ex
  rw [nI_1] at ex
  subst ea ex
  exact h
theorem xe_app_se (HP : pn_P P p) {n b : Nat} (h : post (C, T, F, K, rc, st, rs, ti, ni, cr, hc, nk, ms, ei, us, dn, sa, fi, lo, hi, wa, ic, se, lc, rm, w, upd q p (q p + 1), ih, vd, ro, no)) : wX_append_62 post P (nI (p * 4)) (nI b) C T F K rc (n + 1) (nI 4) st rs ti ni cr hc nk ms ei us dn sa fi lo hi wa ic se lc rm w q ih vd ro no := by
  refine br_t pp_44 ⟨pp_v HP, pp_v HP, ?_⟩
  rw [pp_n HP]
  exact nm_e h
theorem xa_app_se (HP : pn_P P p) {s : Nat} (hs : q p = nI s) (hs8 : s ≤ 8) {c i d : Int32} (h : post (C, T, F, K, rc, st, rs, ti, ni, cr, hc, nk, ms, ei, us, dn, sa, fi, lo, hi, wa, ic, se, lc, rm, pn_aw w q p c i d (se (p * 4 + 0)) (se (p * 4 + 1)) (se (p * 4 + 2)) (se (p * 4 + 3)), pn_aq q p, ih, vd, ro, no)) : wpX_append post (C, T, F, K, rc, st, rs, ti, ni, cr, hc, nk, ms, ei, us, dn, sa, fi, lo, hi, wa, ic, se, lc, rm, w, q, ih, vd, ro, no) P c i d (nI (p * 4)) := by
  have pv := pp_v HP
  unfold wpX_append
  refine ⟨pv, ?_⟩
  rw [pp_n HP, hs]
  by_cases h8 : s < 8
  · have hb : p * 56 + s * 7 ≤ 105 := by have := pp_lt HP; omega
    rw [pn_aw_lt hs h8, pn_aq_lt hs h8] at h
    refine br_t (nI_lt (b := 8) h8 (by decide)) ⟨pv, ?_⟩
    intro x7 e7
    rw [pp_b HP] at e7
    subst e7
    have b0 : (nI (p * 56 + s * 7) + 0).toNatClampNeg = p * 56 + s * 7 + 0 := pp_bk (k := 0) hb (by decide)
    have b1 : (nI (p * 56 + s * 7) + 1).toNatClampNeg = p * 56 + s * 7 + 1 := pp_bk (k := 1) hb (by decide)
    have b2 : (nI (p * 56 + s * 7) + 2).toNatClampNeg = p * 56 + s * 7 + 2 := pp_bk (k := 2) hb (by decide)
    rw [b0, b1, b2]
    refine ⟨pp_vbk (k := 0) hb (by decide), nm_e ⟨pp_vbk (k := 1) hb (by decide), nm_e ⟨pp_vbk (k := 2) hb (by decide), nm_e ?_⟩⟩⟩
    exact ⟨5, xs_app_se HP hb (k := 0) (by decide) (xs_app_se HP hb (k := 1) (by decide) (xs_app_se HP hb (k := 2) (by decide) (xs_app_se HP hb (k := 3) (by decide) (xe_app_se HP h))))⟩
  · rw [pn_aw_ge hs h8 hs8, pn_aq_ge hs h8 hs8] at h
    exact br_f (pn_n8 h8 hs8) h
theorem xs_app_ih (HP : pn_P P p) {n b k : Nat} (hb : b ≤ 105) (hk : k < 4) (h : wX_append_3_62 post P 3 (nI b) C T F K rc n (nI (k + 1)) st rs ti ni cr hc nk ms ei us dn sa fi lo hi wa ic se lc rm (upd w (b + (3 + k)) (ih (3 + k))) q ih vd ro no) : wX_append_3_62 post P 3 (nI b) C T F K rc (n + 1) (nI k) st rs ti ni cr hc nk ms ei us dn sa fi lo hi wa ic se lc rm w q ih vd ro no := by
  refine br_f (pp_g4 hk) ?_
  rw [pp_3 hk, pp_b3k hb hk]
  refine ⟨pp_v3 hk, pp_vb3k hb hk, ?_⟩
  intro a ea x ex
  rw [nI_1] at ex
  subst ea ex
  exact h
theorem xe_app_ih (HP : pn_P P p) {n b : Nat} (h : post (C, T, F, K, rc, st, rs, ti, ni, cr, hc, nk, ms, ei, us, dn, sa, fi, lo, hi, wa, ic, se, lc, rm, w, upd q p (q p + 1), ih, vd, ro, no)) : wX_append_3_62 post P 3 (nI b) C T F K rc (n + 1) (nI 4) st rs ti ni cr hc nk ms ei us dn sa fi lo hi wa ic se lc rm w q ih vd ro no := by
  refine br_t pp_44 ⟨pp_v HP, pp_v HP, ?_⟩
  rw [pp_n HP]
  exact nm_e h
theorem xa_app_ih (HP : pn_P P p) {s : Nat} (hs : q p = nI s) (hs8 : s ≤ 8) {c i d : Int32} (h : post (C, T, F, K, rc, st, rs, ti, ni, cr, hc, nk, ms, ei, us, dn, sa, fi, lo, hi, wa, ic, se, lc, rm, pn_aw w q p c i d (ih (3 + 0)) (ih (3 + 1)) (ih (3 + 2)) (ih (3 + 3)), pn_aq q p, ih, vd, ro, no)) : wpX_append_3 post (C, T, F, K, rc, st, rs, ti, ni, cr, hc, nk, ms, ei, us, dn, sa, fi, lo, hi, wa, ic, se, lc, rm, w, q, ih, vd, ro, no) P c i d 3 := by
  have pv := pp_v HP
  unfold wpX_append_3
  refine ⟨pv, ?_⟩
  rw [pp_n HP, hs]
  by_cases h8 : s < 8
  · have hb : p * 56 + s * 7 ≤ 105 := by have := pp_lt HP; omega
    rw [pn_aw_lt hs h8, pn_aq_lt hs h8] at h
    refine br_t (nI_lt (b := 8) h8 (by decide)) ⟨pv, ?_⟩
    intro x7 e7
    rw [pp_b HP] at e7
    subst e7
    have b0 : (nI (p * 56 + s * 7) + 0).toNatClampNeg = p * 56 + s * 7 + 0 := pp_bk (k := 0) hb (by decide)
    have b1 : (nI (p * 56 + s * 7) + 1).toNatClampNeg = p * 56 + s * 7 + 1 := pp_bk (k := 1) hb (by decide)
    have b2 : (nI (p * 56 + s * 7) + 2).toNatClampNeg = p * 56 + s * 7 + 2 := pp_bk (k := 2) hb (by decide)
    rw [b0, b1, b2]
    refine ⟨pp_vbk (k := 0) hb (by decide), nm_e ⟨pp_vbk (k := 1) hb (by decide), nm_e ⟨pp_vbk (k := 2) hb (by decide), nm_e ?_⟩⟩⟩
    exact ⟨5, xs_app_ih HP hb (k := 0) (by decide) (xs_app_ih HP hb (k := 1) (by decide) (xs_app_ih HP hb (k := 2) (by decide) (xs_app_ih HP hb (k := 3) (by decide) (xe_app_ih HP h))))⟩
  · rw [pn_aw_ge hs h8 hs8, pn_aq_ge hs h8 hs8] at h
    exact br_f (pn_n8 h8 hs8) h
theorem xs_scr (HP : pn_P P p) {n k : Nat} (hk : k < 4) (h : wX_sendConfigureRequest_28 post P (nI (p * 4)) C T F K rc n (nI (p * 4 + (k + 1))) st rs ti ni cr hc nk ms ei us dn sa fi lo hi wa ic (upd se (p * 4 + k) (pn_g ic wa p k)) lc rm w q ih vd ro no) : wX_sendConfigureRequest_28 post P (nI (p * 4)) C T F K rc (n + 1) (nI (p * 4 + k)) st rs ti ni cr hc nk ms ei us dn sa fi lo hi wa ic se lc rm w q ih vd ro no := by
  have hp := pp_lt HP
  have g : ¬ nI (p * 4) + 4 ≤ nI (p * 4 + k) := by
    rw [show nI (p * 4) + 4 = nI (p * 4 + 4) from nI_add _ 4]
    exact nI_ge (by omega) (by omega)
  have v : vp_in (nI (p * 4 + k)) 8 := vp_in_nI (by omega) (by decide)
  refine br_f g ⟨v, ?_⟩
  rw [nI_clamp (n := p * 4 + k) (by omega)]
  by_cases hi1 : ic (p * 4 + k) = 0
  · rw [show pn_g ic wa p k = -1 from if_pos hi1] at h
    refine br_t hi1 ⟨v, ?_⟩
    intro a ea x ex
    rw [nI_1] at ex
    subst ea ex
    exact h
  · rw [show pn_g ic wa p k = wa (p * 4 + k) from if_neg hi1] at h
    refine br_f hi1 ⟨v, v, ?_⟩
    intro a ea x ex
    rw [nI_1] at ex
    subst ea ex
    exact h
theorem xe_scr (HP : pn_P P p) {n s : Nat} (hs : q p = nI s) (hs8 : s ≤ 8) (h : post (C, T, F, K, rc, st, pn_sp rs p, upd ti p K, ni, cr, hc, nk, ms, ei, us, dn, sa, fi, lo, hi, wa, ic, se, lc, rm, pn_aw w q p 1 (cr p) 0 (se (p * 4 + 0)) (se (p * 4 + 1)) (se (p * 4 + 2)) (se (p * 4 + 3)), pn_aq q p, ih, vd, ro, no)) : wX_sendConfigureRequest_28 post P (nI (p * 4)) C T F K rc (n + 1) (nI (p * 4 + 4)) st rs ti ni cr hc nk ms ei us dn sa fi lo hi wa ic se lc rm w q ih vd ro no := by
  have hp := pp_lt HP
  have g : nI (p * 4) + 4 ≤ nI (p * 4 + 4) := by
    rw [show nI (p * 4) + 4 = nI (p * 4 + 4) from nI_add _ 4]
    exact nI_le (Nat.le_refl _) (by omega)
  refine br_t g ⟨pp_v HP, ?_⟩
  rw [pp_n HP]
  exact xa_app_se HP hs hs8 (xa_spend HP h)
theorem xa_scr (HP : pn_P P p) {s : Nat} (hs : q p = nI s) (hs8 : s ≤ 8) (h : post (C, T, F, K, rc, st, pn_sp rs p, upd ti p K, upd ni p (ni p + 1), upd cr p (ni p + 1), hc, nk, ms, ei, us, dn, sa, fi, lo, hi, wa, ic, pn_4 se (p * 4) (pn_g ic wa p), lc, rm, pn_aw w q p 1 (ni p + 1) 0 (pn_g ic wa p 0) (pn_g ic wa p 1) (pn_g ic wa p 2) (pn_g ic wa p 3), pn_aq q p, ih, vd, ro, no)) : wpX_sendConfigureRequest post (C, T, F, K, rc, st, rs, ti, ni, cr, hc, nk, ms, ei, us, dn, sa, fi, lo, hi, wa, ic, se, lc, rm, w, q, ih, vd, ro, no) P := by
  have pv := pp_v HP
  unfold wpX_sendConfigureRequest
  rw [pp_n HP]
  intro x2 e2
  rw [pp_40 HP] at e2
  subst e2
  refine ⟨pv, pv, ?_⟩
  intro n1 en
  refine ⟨pv, pv, ?_⟩
  intro c1 ec
  rw [en, pn_at] at ec
  subst en ec
  refine ⟨5, xs_scr HP (k := 0) (by decide) (xs_scr HP (k := 1) (by decide) (xs_scr HP (k := 2) (by decide) (xs_scr HP (k := 3) (by decide) (xe_scr HP hs hs8 ?_))))⟩
  have h0 := pn_4_0 se (p * 4) (pn_g ic wa p)
  have h1 := pn_4_1 se (p * 4) (pn_g ic wa p)
  have h2 := pn_4_2 se (p * 4) (pn_g ic wa p)
  have h3 := pn_4_3 se (p * 4) (pn_g ic wa p)
  have hc1 := pn_at cr p (ni p + 1)
  rw [← h0, ← h1, ← h2, ← h3] at h
  have E1 : post (C, T, F, K, rc, st, pn_sp rs p, upd ti p K, upd ni p (ni p + 1), upd cr p (ni p + 1), hc, nk, ms, ei, us, dn, sa, fi, lo, hi, wa, ic, pn_4 se (p * 4) (pn_g ic wa p), lc, rm, pn_aw w q p 1 (upd cr p (ni p + 1) p) 0 (pn_4 se (p * 4) (pn_g ic wa p) (p * 4 + 0)) (pn_4 se (p * 4) (pn_g ic wa p) (p * 4 + 1)) (pn_4 se (p * 4) (pn_g ic wa p) (p * 4 + 2)) (pn_4 se (p * 4) (pn_g ic wa p) (p * 4 + 3)), pn_aq q p, ih, vd, ro, no) := by
    rw [hc1]; exact h
  exact E1
theorem xa_app0 (HP : pn_P P p) (N : pn_VN no) {s : Nat} (hs : q p = nI s) (hs8 : s ≤ 8) {c i d : Int32} (h : post (C, T, F, K, rc, st, rs, ti, ni, cr, hc, nk, ms, ei, us, dn, sa, fi, lo, hi, wa, ic, se, lc, rm, pn_aw w q p c i d (-1) (-1) (-1) (-1), pn_aq q p, ih, vd, ro, no)) : wpX_append_2 post (C, T, F, K, rc, st, rs, ti, ni, cr, hc, nk, ms, ei, us, dn, sa, fi, lo, hi, wa, ic, se, lc, rm, w, q, ih, vd, ro, no) P c i d 0 := by
  refine xa_app_no HP hs hs8 ?_
  obtain ⟨n0, n1, n2, n3⟩ := N
  rw [n0, n1, n2, n3]
  exact h
theorem xa_str (HP : pn_P P p) (N : pn_VN no) {s : Nat} (hs : q p = nI s) (hs8 : s ≤ 8) (h : post (C, T, F, K, rc, st, pn_sp rs p, upd ti p K, upd ni p (ni p + 1), cr, hc, nk, ms, ei, us, dn, sa, fi, lo, hi, wa, ic, se, lc, rm, pn_aw w q p 5 (ni p + 1) 0 (-1) (-1) (-1) (-1), pn_aq q p, ih, vd, ro, no)) : wpX_sendTerminateRequest post (C, T, F, K, rc, st, rs, ti, ni, cr, hc, nk, ms, ei, us, dn, sa, fi, lo, hi, wa, ic, se, lc, rm, w, q, ih, vd, ro, no) P := by
  have pv := pp_v HP
  unfold wpX_sendTerminateRequest
  rw [pp_n HP]
  refine ⟨pv, pv, ?_⟩
  intro n1 en
  subst en
  refine ⟨pv, ?_⟩
  rw [pn_at]
  exact xa_app0 HP N hs hs8 (xa_spend HP h)
theorem xa_sta (HP : pn_P P p) (N : pn_VN no) {s : Nat} (hs : q p = nI s) (hs8 : s ≤ 8) {M1 : Int32} (h1 : ih 1 = M1) (h : post (C, T, F, K, rc, st, rs, ti, ni, cr, hc, nk, ms, ei, us, dn, sa, fi, lo, hi, wa, ic, se, lc, rm, pn_aw w q p 6 M1 0 (-1) (-1) (-1) (-1), pn_aq q p, ih, vd, ro, no)) : wpX_sendTerminateAck post (C, T, F, K, rc, st, rs, ti, ni, cr, hc, nk, ms, ei, us, dn, sa, fi, lo, hi, wa, ic, se, lc, rm, w, q, ih, vd, ro, no) P := by
  unfold wpX_sendTerminateAck
  refine xa_app0 HP N hs hs8 ?_
  rw [h1]
  exact h
theorem xa_scj (HP : pn_P P p) (N : pn_VN no) {s : Nat} (hs : q p = nI s) (hs8 : s ≤ 8) {M0 : Int32} (h1 : ih 0 = M0) (h : post (C, T, F, K, rc, st, rs, ti, upd ni p (ni p + 1), cr, hc, nk, ms, ei, us, dn, sa, fi, lo, hi, wa, ic, se, lc, rm, pn_aw w q p 7 (ni p + 1) M0 (-1) (-1) (-1) (-1), pn_aq q p, ih, vd, ro, no)) : wpX_sendCodeReject post (C, T, F, K, rc, st, rs, ti, ni, cr, hc, nk, ms, ei, us, dn, sa, fi, lo, hi, wa, ic, se, lc, rm, w, q, ih, vd, ro, no) P := by
  have pv := pp_v HP
  unfold wpX_sendCodeReject
  rw [pp_n HP]
  refine ⟨pv, pv, ?_⟩
  rw [h1]
  intro n1 en
  subst en
  refine ⟨pv, ?_⟩
  rw [pn_at]
  exact xa_app0 HP N hs hs8 h
theorem xa_breq (HP : pn_P P p) {s : Nat} (hs : q p = nI s) (hs8 : s ≤ 8) (h : post (C, T, F, K, rc, upd st p 6, pn_sp (upd rs p C) p, upd ti p K, upd ni p (ni p + 1), upd cr p (ni p + 1), hc, upd nk p 0, ms, ei, us, dn, sa, fi, lo, hi, pn_4 wa (p * 4) (pn_hi hi p), pn_4 ic (p * 4) (pn_in lo hi p), pn_4 se (p * 4) (pn_g (pn_4 ic (p * 4) (pn_in lo hi p)) (pn_4 wa (p * 4) (pn_hi hi p)) p), lc, rm, pn_aw w q p 1 (ni p + 1) 0 (pn_g (pn_4 ic (p * 4) (pn_in lo hi p)) (pn_4 wa (p * 4) (pn_hi hi p)) p 0) (pn_g (pn_4 ic (p * 4) (pn_in lo hi p)) (pn_4 wa (p * 4) (pn_hi hi p)) p 1) (pn_g (pn_4 ic (p * 4) (pn_in lo hi p)) (pn_4 wa (p * 4) (pn_hi hi p)) p 2) (pn_g (pn_4 ic (p * 4) (pn_in lo hi p)) (pn_4 wa (p * 4) (pn_hi hi p)) p 3), pn_aq q p, ih, vd, ro, no)) : wpX_beginRequests post (C, T, F, K, rc, st, rs, ti, ni, cr, hc, nk, ms, ei, us, dn, sa, fi, lo, hi, wa, ic, se, lc, rm, w, q, ih, vd, ro, no) P := by
  have pv := pp_v HP
  unfold wpX_beginRequests
  rw [pp_n HP]
  refine xa_start HP ⟨pv, nm_e (xa_scr HP hs hs8 ⟨pv, nm_e h⟩)⟩
theorem xa_bterm (HP : pn_P P p) (N : pn_VN no) {s : Nat} (hs : q p = nI s) (hs8 : s ≤ 8) {S : Int32} (h : post (C, T, F, K, rc, upd st p S, pn_sp (upd rs p T) p, upd ti p K, upd ni p (ni p + 1), cr, hc, nk, ms, ei, us, dn, sa, fi, lo, hi, wa, ic, se, lc, rm, pn_aw w q p 5 (ni p + 1) 0 (-1) (-1) (-1) (-1), pn_aq q p, ih, vd, ro, no)) : wpX_beginTermination post (C, T, F, K, rc, st, rs, ti, ni, cr, hc, nk, ms, ei, us, dn, sa, fi, lo, hi, wa, ic, se, lc, rm, w, q, ih, vd, ro, no) P S := by
  have pv := pp_v HP
  unfold wpX_beginTermination
  rw [pp_n HP]
  refine ⟨pv, nm_e (xa_str HP N hs hs8 ⟨pv, nm_e h⟩)⟩
theorem xa_fin4 (HP : pn_P P p) (e : st p = 4) (h : post (C, T, F, K, rc, upd st p 2, rs, ti, ni, cr, hc, nk, ms, ei, us, dn, sa, upd fi p (fi p + 1), lo, hi, wa, ic, se, lc, rm, w, q, ih, vd, ro, no)) : wpX_finish post (C, T, F, K, rc, st, rs, ti, ni, cr, hc, nk, ms, ei, us, dn, sa, fi, lo, hi, wa, ic, se, lc, rm, w, q, ih, vd, ro, no) P := by
  have pv := pp_v HP
  unfold wpX_finish
  rw [pp_n HP]
  exact ⟨pv, pv, nm_e ⟨pv, br_t e ⟨pv, nm_e h⟩⟩⟩
theorem xa_finle (HP : pn_P P p) (e : ¬ st p = 4) (e2 : st p ≤ 4) (h : post (C, T, F, K, rc, st, rs, ti, ni, cr, hc, nk, ms, ei, us, dn, sa, upd fi p (fi p + 1), lo, hi, wa, ic, se, lc, rm, w, q, ih, vd, ro, no)) : wpX_finish post (C, T, F, K, rc, st, rs, ti, ni, cr, hc, nk, ms, ei, us, dn, sa, fi, lo, hi, wa, ic, se, lc, rm, w, q, ih, vd, ro, no) P := by
  have pv := pp_v HP
  unfold wpX_finish
  rw [pp_n HP]
  exact ⟨pv, pv, nm_e ⟨pv, br_f e ⟨pv, br_t e2 h⟩⟩⟩
theorem xa_fingt (HP : pn_P P p) (e : ¬ st p = 4) (e2 : ¬ st p ≤ 4) (h : post (C, T, F, K, rc, upd st p 3, rs, ti, ni, cr, hc, nk, ms, ei, us, dn, sa, upd fi p (fi p + 1), lo, hi, wa, ic, se, lc, rm, w, q, ih, vd, ro, no)) : wpX_finish post (C, T, F, K, rc, st, rs, ti, ni, cr, hc, nk, ms, ei, us, dn, sa, fi, lo, hi, wa, ic, se, lc, rm, w, q, ih, vd, ro, no) P := by
  have pv := pp_v HP
  unfold wpX_finish
  rw [pp_n HP]
  exact ⟨pv, pv, nm_e ⟨pv, br_f e ⟨pv, br_f e2 ⟨pv, nm_e h⟩⟩⟩⟩
theorem xa_timed1 (HP : pn_P P p) (e4 : ¬ st p < 4) (e8 : ¬ 8 < st p) (h : post1 1) : wpX_isTimed post1 (C, T, F, K, rc, st, rs, ti, ni, cr, hc, nk, ms, ei, us, dn, sa, fi, lo, hi, wa, ic, se, lc, rm, w, q, ih, vd, ro, no) P := by
  have pv := pp_v HP
  unfold wpX_isTimed
  rw [pp_n HP]
  exact ⟨pv, br_f e4 ⟨pv, br_f e8 h⟩⟩
theorem xa_timed0 (HP : pn_P P p) (e : st p < 4 ∨ (¬ st p < 4 ∧ 8 < st p)) (h : post1 0) : wpX_isTimed post1 (C, T, F, K, rc, st, rs, ti, ni, cr, hc, nk, ms, ei, us, dn, sa, fi, lo, hi, wa, ic, se, lc, rm, w, q, ih, vd, ro, no) P := by
  have pv := pp_v HP
  unfold wpX_isTimed
  rw [pp_n HP]
  rcases e with e4 | ⟨e4, e8⟩
  · exact ⟨pv, br_t e4 h⟩
  · exact ⟨pv, br_f e4 ⟨pv, br_t e8 h⟩⟩
theorem xa_setl1 (HP : pn_P P p) (e4 : ¬ st p < 4) (e8 : ¬ 8 < st p) (h : post (C, T, F, K, rc, st, rs, ti, ni, cr, hc, nk, ms, ei, us, dn, sa, fi, lo, hi, wa, ic, se, lc, rm, w, q, ih, vd, ro, no)) : wpX_settleTimer post (C, T, F, K, rc, st, rs, ti, ni, cr, hc, nk, ms, ei, us, dn, sa, fi, lo, hi, wa, ic, se, lc, rm, w, q, ih, vd, ro, no) P := by
  unfold wpX_settleTimer
  exact xa_timed1 HP e4 e8 (br_f (by decide) h)
theorem xa_setl0 (HP : pn_P P p) (e : st p < 4 ∨ (¬ st p < 4 ∧ 8 < st p)) (h : post (C, T, F, K, rc, st, rs, upd ti p 0, ni, cr, hc, nk, ms, ei, us, dn, sa, fi, lo, hi, wa, ic, se, lc, rm, w, q, ih, vd, ro, no)) : wpX_settleTimer post (C, T, F, K, rc, st, rs, ti, ni, cr, hc, nk, ms, ei, us, dn, sa, fi, lo, hi, wa, ic, se, lc, rm, w, q, ih, vd, ro, no) P := by
  have pv := pp_v HP
  unfold wpX_settleTimer
  rw [pp_n HP]
  exact xa_timed0 HP e (br_t rfl ⟨pv, nm_e h⟩)
theorem xa_setl (HP : pn_P P p) (h : post (C, T, F, K, rc, st, rs, pn_tj st ti p, ni, cr, hc, nk, ms, ei, us, dn, sa, fi, lo, hi, wa, ic, se, lc, rm, w, q, ih, vd, ro, no)) : wpX_settleTimer post (C, T, F, K, rc, st, rs, ti, ni, cr, hc, nk, ms, ei, us, dn, sa, fi, lo, hi, wa, ic, se, lc, rm, w, q, ih, vd, ro, no) P := by
  by_cases h4 : st p < 4
  · rw [pn_tj_off (Or.inl h4)] at h
    exact xa_setl0 HP (Or.inl h4) h
  · by_cases h8 : 8 < st p
    · rw [pn_tj_off (Or.inr ⟨h4, h8⟩)] at h
      exact xa_setl0 HP (Or.inr ⟨h4, h8⟩) h
    · rw [pn_tj_on h4 h8] at h
      exact xa_setl1 HP h4 h8 h
theorem xa_tlu (HP : pn_P P p) (h : post (C, T, F, K, rc, st, rs, ti, ni, cr, hc, nk, upd ms p 0, ei, upd us p (us p + 1), dn, sa, fi, lo, hi, wa, ic, se, lc, rm, w, q, ih, vd, ro, no)) : wpX_layerUp post (C, T, F, K, rc, st, rs, ti, ni, cr, hc, nk, ms, ei, us, dn, sa, fi, lo, hi, wa, ic, se, lc, rm, w, q, ih, vd, ro, no) P := by
  have pv := pp_v HP
  unfold wpX_layerUp
  rw [pp_n HP]
  exact ⟨pv, pv, nm_e ⟨pv, nm_e h⟩⟩
theorem xs_sh {b L : Nat} (hb : b + L ≤ 105) (h : post (C, T, F, K, rc, st, rs, ti, ni, cr, hc, nk, ms, ei, us, dn, sa, fi, lo, hi, wa, ic, se, lc, rm, pn_sh w b L, q, ih, vd, ro, no)) : ∀ d n : Nat, n + d = L → wX_takeHead_61 post (nI (b + L)) C T F K rc (d + 1) (nI (b + n)) st rs ti ni cr hc nk ms ei us dn sa fi lo hi wa ic se lc rm (pn_sh w b n) q ih vd ro no := by
  intro d
  induction d with
  | zero =>
    intro n hn
    have e : n = L := by omega
    subst e
    exact br_t (nI_le (Nat.le_refl _) (by omega)) h
  | succ d IH =>
    intro n hn
    refine br_f (nI_ge (by omega) (by omega)) ?_
    rw [show nI (b + n) + 7 = nI (b + n + 7) from nI_add _ 7, nI_clamp (n := b + n + 7) (by omega), nI_clamp (n := b + n) (by omega)]
    refine ⟨vp_in_nI (by omega) (by decide), vp_in_nI (by omega) (by decide), ?_⟩
    intro a ea x ex
    rw [nI_1] at ex
    rw [pn_shs] at ea
    subst ea ex
    exact IH (n + 1) (by omega)
theorem xs_take {n b k : Nat} (hb : b ≤ 105) (hk : k < 7) (h : wX_takeHead_10 post P (nI b) C T F K rc n (nI (k + 1)) st rs ti ni cr hc nk ms ei us dn sa fi lo hi wa ic se lc rm w q (upd ih k (w (b + k))) vd ro no) : wX_takeHead_10 post P (nI b) C T F K rc (n + 1) (nI k) st rs ti ni cr hc nk ms ei us dn sa fi lo hi wa ic se lc rm w q ih vd ro no := by
  refine br_f (pp_g7 hk) ?_
  rw [pp_bk hb hk, nI_clamp (n := k) (by omega)]
  refine ⟨pp_vbk hb hk, vp_in_nI hk (by decide), ?_⟩
  intro a ea x ex
  rw [nI_1] at ex
  subst ea ex
  exact h
theorem xe_take (HP : pn_P P p) {n s : Nat} (hs : q p = nI (s + 1)) (hs8 : s + 1 ≤ 8) (h : post (C, T, F, K, rc, st, rs, ti, ni, cr, hc, nk, ms, ei, us, dn, sa, fi, lo, hi, wa, ic, se, lc, rm, pn_sh w (p * 56) (s * 7), upd q p (nI s), ih, vd, ro, no)) : wX_takeHead_10 post P (nI (p * 56)) C T F K rc (n + 1) (nI 7) st rs ti ni cr hc nk ms ei us dn sa fi lo hi wa ic se lc rm w q ih vd ro no := by
  have pv := pp_v HP
  have hp := pp_lt HP
  refine br_t pp_77 ⟨pv, pv, ?_⟩
  rw [pp_n HP, hs, nI_pred]
  intro a ea
  rw [ea, pn_at]
  refine ⟨pv, ?_⟩
  intro x ex
  rw [show nI s * 7 = nI (s * 7) from pn_mul s 7, nI_add] at ex
  subst ea ex
  refine ⟨s * 7 + 1, ?_⟩
  have h0 := xs_sh (b := p * 56) (L := s * 7) (by omega) h (s * 7) 0 (by omega)
  rw [pn_sh0] at h0
  exact h0
theorem xa_take (HP : pn_P P p) {s : Nat} (hs : q p = nI (s + 1)) (hs8 : s + 1 ≤ 8) (h : post (C, T, F, K, rc, st, rs, ti, ni, cr, hc, nk, ms, ei, us, dn, sa, fi, lo, hi, wa, ic, se, lc, rm, pn_sh w (p * 56) (s * 7), upd q p (nI s), pn_l7 ih (fun f => w (p * 56 + f)), vd, ro, no)) : wpX_takeHead post (C, T, F, K, rc, st, rs, ti, ni, cr, hc, nk, ms, ei, us, dn, sa, fi, lo, hi, wa, ic, se, lc, rm, w, q, ih, vd, ro, no) P := by
  have hp := pp_lt HP
  have hb : p * 56 ≤ 105 := by omega
  unfold wpX_takeHead
  intro x2 e2
  rw [pp_b0 HP] at e2
  subst e2
  exact ⟨8, xs_take hb (k := 0) (by decide) (xs_take hb (k := 1) (by decide) (xs_take hb (k := 2) (by decide) (xs_take hb (k := 3) (by decide) (xs_take hb (k := 4) (by decide) (xs_take hb (k := 5) (by decide) (xs_take hb (k := 6) (by decide) (xe_take HP hs hs8 h)))))))⟩
theorem xs_sca (HP : pn_P P p) {n k : Nat} {R : Nat → Int32} (hR : ro k = R k) (hk : k < 4) (h : wX_sendConfigureAck_20 post P C T F K rc n (nI (k + 1)) st rs ti ni cr hc nk ms ei us dn sa fi lo hi wa ic se lc (upd rm (p * 4 + k) (R k)) w q ih vd ro no) : wX_sendConfigureAck_20 post P C T F K rc (n + 1) (nI k) st rs ti ni cr hc nk ms ei us dn sa fi lo hi wa ic se lc rm w q ih vd ro no := by
  refine br_f (pp_g4 hk) ?_
  rw [pp_4 HP hk, nI_clamp (n := k) (by omega), hR]
  refine ⟨vp_in_nI hk (by decide), pp_v4 HP hk, ?_⟩
  intro a ea x ex
  rw [nI_1] at ex
  subst ea ex
  exact h
theorem xe_sca (HP : pn_P P p) {n : Nat} (h : post (C, T, F, K, rc, st, rs, ti, ni, cr, hc, upd nk p 0, ms, ei, us, dn, sa, fi, lo, hi, wa, ic, se, lc, rm, w, q, ih, vd, ro, no)) : wX_sendConfigureAck_20 post P C T F K rc (n + 1) (nI 4) st rs ti ni cr hc nk ms ei us dn sa fi lo hi wa ic se lc rm w q ih vd ro no := by
  refine br_t pp_44 ⟨pp_v HP, ?_⟩
  rw [pp_n HP]
  exact nm_e h
theorem xa_sca (HP : pn_P P p) {s : Nat} (hs : q p = nI s) (hs8 : s ≤ 8) {M1 : Int32} (h1 : ih 1 = M1) {R : Nat → Int32} (hR : ∀ k, k < 4 → ro k = R k) (h : post (C, T, F, K, rc, st, rs, ti, ni, cr, hc, upd nk p 0, ms, ei, us, dn, sa, fi, lo, hi, wa, ic, se, lc, pn_4 rm (p * 4) R, pn_aw w q p 2 M1 0 (R 0) (R 1) (R 2) (R 3), pn_aq q p, ih, vd, ro, no)) : wpX_sendConfigureAck post (C, T, F, K, rc, st, rs, ti, ni, cr, hc, nk, ms, ei, us, dn, sa, fi, lo, hi, wa, ic, se, lc, rm, w, q, ih, vd, ro, no) P := by
  unfold wpX_sendConfigureAck
  refine xa_app_ro HP hs hs8 ?_
  rw [h1, hR 0 (by decide), hR 1 (by decide), hR 2 (by decide), hR 3 (by decide)]
  exact ⟨5, xs_sca HP (k := 0) (hR 0 (by decide)) (by decide) (xs_sca HP (k := 1) (hR 1 (by decide)) (by decide) (xs_sca HP (k := 2) (hR 2 (by decide)) (by decide) (xs_sca HP (k := 3) (hR 3 (by decide)) (by decide) (xe_sca HP h))))⟩
theorem xa_scn (HP : pn_P P p) {s : Nat} (hs : q p = nI s) (hs8 : s ≤ 8) {M1 : Int32} (h1 : ih 1 = M1) {R : Nat → Int32} (hR : ∀ k, k < 4 → ro k = R k) (h : post (C, T, F, K, rc, st, rs, ti, ni, cr, hc, if rc = 3 then upd nk p (nk p + 1) else nk, ms, ei, us, dn, sa, fi, lo, hi, wa, ic, se, lc, rm, pn_aw w q p rc M1 0 (R 0) (R 1) (R 2) (R 3), pn_aq q p, ih, vd, ro, no)) : wpX_sendRefusal post (C, T, F, K, rc, st, rs, ti, ni, cr, hc, nk, ms, ei, us, dn, sa, fi, lo, hi, wa, ic, se, lc, rm, w, q, ih, vd, ro, no) P := by
  have pv := pp_v HP
  unfold wpX_sendRefusal
  rw [pp_n HP]
  refine xa_app_ro HP hs hs8 ?_
  rw [h1, hR 0 (by decide), hR 1 (by decide), hR 2 (by decide), hR 3 (by decide)]
  by_cases h3 : rc = 3
  · rw [if_pos h3] at h
    exact br_t h3 ⟨pv, pv, nm_e h⟩
  · rw [if_neg h3] at h
    exact br_f h3 h
theorem xs_adopt (HP : pn_P P p) {n k : Nat} {M wa0 ic0 : Nat → Int32} (hM : ∀ f, f < 7 → ih f = M f) (hk : k < 4) (hw : wa (p * 4 + k) = wa0 (p * 4 + k)) (hc1 : ic (p * 4 + k) = ic0 (p * 4 + k)) (h : wX_adopt_2 post P C T F K rc n (nI (k + 1)) st rs ti ni cr hc nk ms ei us dn sa fi lo hi (upd wa (p * 4 + k) (pn_aW (M 0) M lo hi wa0 p k)) (upd ic (p * 4 + k) (pn_aI (M 0) M ic0 p k)) se lc rm w q ih vd ro no) : wX_adopt_2 post P C T F K rc (n + 1) (nI k) st rs ti ni cr hc nk ms ei us dn sa fi lo hi wa ic se lc rm w q ih vd ro no := by
  refine br_f (pp_g4 hk) ?_
  intro x3 e3
  have e4 : x3.toNatClampNeg = p * 4 + k := by rw [e3, pp_4 HP hk]
  have v4 : vp_in x3 8 := by rw [e3]; exact pp_v4 HP hk
  rw [e4, pp_3 hk, hM (3 + k) (by omega), hM 0 (by decide)]
  refine ⟨pp_v3 hk, ?_⟩
  intro x4 e5
  subst e5
  by_cases hn : M (3 + k) = -1
  · rw [show pn_aW (M 0) M lo hi wa0 p k = wa0 (p * 4 + k) from if_pos hn, show pn_aI (M 0) M ic0 p k = ic0 (p * 4 + k) from if_pos hn, pn_self wa _ _ hw, pn_self ic _ _ hc1] at h
    refine br_t hn ?_
    intro x ex
    rw [nI_1] at ex
    subst ex
    exact h
  · refine br_f hn ?_
    by_cases h3 : M 0 = 3
    · rw [show pn_aW (M 0) M lo hi wa0 p k = pn_cl (M (3 + k)) (lo (p * 4 + k)) (hi (p * 4 + k)) from (if_neg hn).trans (if_pos h3), show pn_aI (M 0) M ic0 p k = ic0 (p * 4 + k) from (if_neg hn).trans (if_pos h3), pn_self ic _ _ hc1] at h
      refine br_t h3 ⟨v4, v4, xa_clamp ⟨v4, ?_⟩⟩
      intro a ea x ex
      rw [nI_1] at ex
      subst ea ex
      exact h
    · rw [show pn_aW (M 0) M lo hi wa0 p k = wa0 (p * 4 + k) from (if_neg hn).trans (if_neg h3), show pn_aI (M 0) M ic0 p k = 0 from (if_neg hn).trans (if_neg h3), pn_self wa _ _ hw] at h
      refine br_f h3 ⟨v4, ?_⟩
      intro a ea x ex
      rw [nI_1] at ex
      subst ea ex
      exact h
theorem xe_adopt {n : Nat} (h : post (C, T, F, K, rc, st, rs, ti, ni, cr, hc, nk, ms, ei, us, dn, sa, fi, lo, hi, wa, ic, se, lc, rm, w, q, ih, vd, ro, no)) : wX_adopt_2 post P C T F K rc (n + 1) (nI 4) st rs ti ni cr hc nk ms ei us dn sa fi lo hi wa ic se lc rm w q ih vd ro no := br_t pp_44 h
theorem xa_adopt (HP : pn_P P p) {M : Nat → Int32} (hM : ∀ f, f < 7 → ih f = M f) (h : post (C, T, F, K, rc, st, rs, ti, ni, cr, hc, nk, ms, ei, us, dn, sa, fi, lo, hi, pn_4 wa (p * 4) (pn_aW (M 0) M lo hi wa p), pn_4 ic (p * 4) (pn_aI (M 0) M ic p), se, lc, rm, w, q, ih, vd, ro, no)) : wpX_adopt post (C, T, F, K, rc, st, rs, ti, ni, cr, hc, nk, ms, ei, us, dn, sa, fi, lo, hi, wa, ic, se, lc, rm, w, q, ih, vd, ro, no) P := by
  unfold wpX_adopt
  refine ⟨5, xs_adopt HP (k := 0) (wa0 := wa) (ic0 := ic) hM (by decide) ?_ ?_ (xs_adopt HP (k := 1) (wa0 := wa) (ic0 := ic) hM (by decide) ?_ ?_ (xs_adopt HP (k := 2) (wa0 := wa) (ic0 := ic) hM (by decide) ?_ ?_ (xs_adopt HP (k := 3) (wa0 := wa) (ic0 := ic) hM (by decide) ?_ ?_ (xe_adopt h))))⟩
  all_goals first | rfl | (repeat rw [pn_ne _ _ (by omega)])
theorem xs_vA (HP : pn_P P p) {n k : Nat} {M : Nat → Int32} {y : Int32} (hM : ∀ f, f < 7 → ih f = M f) (hk : k < 4) (hy : y = 0 ∨ y = 1) (h : wX_isValidAck_23 post1 P C T F K rc st rs ti ni cr hc nk ms ei us dn sa fi lo hi wa ic se lc rm w q ih vd ro no n (pn_fA M se p k y) (nI (k + 1))) : wX_isValidAck_23 post1 P C T F K rc st rs ti ni cr hc nk ms ei us dn sa fi lo hi wa ic se lc rm w q ih vd ro no (n + 1) y (nI k) := by
  refine br_f (pp_g4 hk) ?_
  rw [pp_3 hk, pp_4 HP hk, hM (3 + k) (by omega)]
  rcases hy with rfl | rfl
  · rw [show pn_fA M se p k 0 = 0 from ite_self 0] at h
    refine br_t rfl ?_
    intro x ex
    rw [nI_1] at ex
    subst ex
    exact h
  · refine br_f (by decide) ⟨pp_v3 hk, pp_v4 HP hk, ?_⟩
    by_cases c : M (3 + k) = se (p * 4 + k)
    · rw [show pn_fA M se p k 1 = 1 from if_pos c] at h
      exact br_t c (nm_r (nI_1 k) h)
    · rw [show pn_fA M se p k 1 = 0 from if_neg c] at h
      exact br_f c (nm_r (nI_1 k) h)
theorem xe_vA {n : Nat} {y : Int32} (hy : y = 0 ∨ y = 1) (h : post1 y) : wX_isValidAck_23 post1 P C T F K rc st rs ti ni cr hc nk ms ei us dn sa fi lo hi wa ic se lc rm w q ih vd ro no (n + 1) y (nI 4) := by
  rcases hy with rfl | rfl
  · exact br_t pp_44 ⟨rfl, h⟩
  · exact br_t pp_44 ⟨rfl, h⟩
theorem xa_vA (HP : pn_P P p) {M : Nat → Int32} (hM : ∀ f, f < 7 → ih f = M f) (h : post1 (pn_gA M se p (if M 1 = cr p then 1 else 0))) : wpX_isValidAck post1 (C, T, F, K, rc, st, rs, ti, ni, cr, hc, nk, ms, ei, us, dn, sa, fi, lo, hi, wa, ic, se, lc, rm, w, q, ih, vd, ro, no) P := by
  unfold wpX_isValidAck
  refine ⟨pp_v HP, ?_⟩
  rw [pp_n HP, hM 1 (by decide)]
  by_cases c : M 1 = cr p
  · rw [if_pos c] at h
    have y0 := pn_fA_01 (M := M) (se := se) (p := p) (k := 0) (y := 1) (Or.inr rfl)
    have y1 := pn_fA_01 (M := M) (se := se) (p := p) (k := 1) y0
    have y2 := pn_fA_01 (M := M) (se := se) (p := p) (k := 2) y1
    have y3 := pn_fA_01 (M := M) (se := se) (p := p) (k := 3) y2
    exact br_t c ⟨5, xs_vA HP (k := 0) hM (by decide) (Or.inr rfl) (xs_vA HP (k := 1) hM (by decide) y0 (xs_vA HP (k := 2) hM (by decide) y1 (xs_vA HP (k := 3) hM (by decide) y2 (xe_vA y3 h))))⟩
  · rw [if_neg c] at h
    have y0 := pn_fA_01 (M := M) (se := se) (p := p) (k := 0) (y := 0) (Or.inl rfl)
    have y1 := pn_fA_01 (M := M) (se := se) (p := p) (k := 1) y0
    have y2 := pn_fA_01 (M := M) (se := se) (p := p) (k := 2) y1
    have y3 := pn_fA_01 (M := M) (se := se) (p := p) (k := 3) y2
    exact br_f c ⟨5, xs_vA HP (k := 0) hM (by decide) (Or.inl rfl) (xs_vA HP (k := 1) hM (by decide) y0 (xs_vA HP (k := 2) hM (by decide) y1 (xs_vA HP (k := 3) hM (by decide) y2 (xe_vA y3 h))))⟩
theorem xs_vN (HP : pn_P P p) {n k : Nat} {M : Nat → Int32} {y : Int32} (hM : ∀ f, f < 7 → ih f = M f) (hk : k < 4) (hy : y = 0 ∨ y = 1) (h : wX_isValidNak_23 post1 P C T F K rc st rs ti ni cr hc nk ms ei us dn sa fi lo hi wa ic se lc rm w q ih vd ro no n (pn_fN M se p k y) (nI (k + 1))) : wX_isValidNak_23 post1 P C T F K rc st rs ti ni cr hc nk ms ei us dn sa fi lo hi wa ic se lc rm w q ih vd ro no (n + 1) y (nI k) := by
  refine br_f (pp_g4 hk) ?_
  rw [pp_3 hk, pp_4 HP hk, hM (3 + k) (by omega)]
  rcases hy with rfl | rfl
  · rw [show pn_fN M se p k 0 = 0 from by unfold pn_fN; split <;> (try split) <;> rfl] at h
    exact br_t rfl (nm_r (nI_1 k) h)
  · refine br_f (by decide) ⟨pp_v3 hk, ?_⟩
    by_cases c : M (3 + k) = -1
    · rw [show pn_fN M se p k 1 = 1 from if_pos c] at h
      exact br_t c (nm_r (nI_1 k) h)
    · refine br_f c ⟨pp_v4 HP hk, ?_⟩
      by_cases c2 : se (p * 4 + k) = -1
      · rw [show pn_fN M se p k 1 = 0 from (if_neg c).trans (if_pos c2)] at h
        exact br_t c2 (nm_r (nI_1 k) h)
      · rw [show pn_fN M se p k 1 = 1 from (if_neg c).trans (if_neg c2)] at h
        exact br_f c2 (nm_r (nI_1 k) h)
theorem xe_vN {n : Nat} {y : Int32} (hy : y = 0 ∨ y = 1) (h : post1 y) : wX_isValidNak_23 post1 P C T F K rc st rs ti ni cr hc nk ms ei us dn sa fi lo hi wa ic se lc rm w q ih vd ro no (n + 1) y (nI 4) := by
  rcases hy with rfl | rfl
  · exact br_t pp_44 ⟨rfl, h⟩
  · exact br_t pp_44 ⟨rfl, h⟩
theorem xa_vN (HP : pn_P P p) {M : Nat → Int32} (hM : ∀ f, f < 7 → ih f = M f) (h : post1 (pn_gN M se p (if M 1 = cr p then 1 else 0))) : wpX_isValidNak post1 (C, T, F, K, rc, st, rs, ti, ni, cr, hc, nk, ms, ei, us, dn, sa, fi, lo, hi, wa, ic, se, lc, rm, w, q, ih, vd, ro, no) P := by
  unfold wpX_isValidNak
  refine ⟨pp_v HP, ?_⟩
  rw [pp_n HP, hM 1 (by decide)]
  by_cases c : M 1 = cr p
  · rw [if_pos c] at h
    have y0 := pn_fN_01 (M := M) (se := se) (p := p) (k := 0) (y := 1) (Or.inr rfl)
    have y1 := pn_fN_01 (M := M) (se := se) (p := p) (k := 1) y0
    have y2 := pn_fN_01 (M := M) (se := se) (p := p) (k := 2) y1
    have y3 := pn_fN_01 (M := M) (se := se) (p := p) (k := 3) y2
    exact br_t c ⟨5, xs_vN HP (k := 0) hM (by decide) (Or.inr rfl) (xs_vN HP (k := 1) hM (by decide) y0 (xs_vN HP (k := 2) hM (by decide) y1 (xs_vN HP (k := 3) hM (by decide) y2 (xe_vN y3 h))))⟩
  · rw [if_neg c] at h
    have y0 := pn_fN_01 (M := M) (se := se) (p := p) (k := 0) (y := 0) (Or.inl rfl)
    have y1 := pn_fN_01 (M := M) (se := se) (p := p) (k := 1) y0
    have y2 := pn_fN_01 (M := M) (se := se) (p := p) (k := 2) y1
    have y3 := pn_fN_01 (M := M) (se := se) (p := p) (k := 3) y2
    exact br_f c ⟨5, xs_vN HP (k := 0) hM (by decide) (Or.inl rfl) (xs_vN HP (k := 1) hM (by decide) y0 (xs_vN HP (k := 2) hM (by decide) y1 (xs_vN HP (k := 3) hM (by decide) y2 (xe_vN y3 h))))⟩
theorem xs_vR (HP : pn_P P p) {n k : Nat} {M : Nat → Int32} {y : Int32} (hM : ∀ f, f < 7 → ih f = M f) (hk : k < 4) (hy : y = 0 ∨ y = 1) (h : wX_isValidReject_23 post1 P C T F K rc st rs ti ni cr hc nk ms ei us dn sa fi lo hi wa ic se lc rm w q ih vd ro no n (pn_fR M se p k y) (nI (k + 1))) : wX_isValidReject_23 post1 P C T F K rc st rs ti ni cr hc nk ms ei us dn sa fi lo hi wa ic se lc rm w q ih vd ro no (n + 1) y (nI k) := by
  refine br_f (pp_g4 hk) ?_
  rw [pp_3 hk, pp_4 HP hk, hM (3 + k) (by omega)]
  refine ⟨pp_v3 hk, ?_⟩
  intro x4 e4
  subst e4
  rcases hy with rfl | rfl
  · rw [show pn_fR M se p k 0 = 0 from by unfold pn_fR; split <;> (try split) <;> rfl] at h
    exact br_t rfl (nm_r (nI_1 k) h)
  · refine br_f (by decide) ?_
    by_cases c : M (3 + k) = -1
    · rw [show pn_fR M se p k 1 = 1 from if_pos c] at h
      exact br_t c (nm_r (nI_1 k) h)
    · refine br_f c ⟨pp_v4 HP hk, ?_⟩
      by_cases c2 : M (3 + k) = se (p * 4 + k)
      · rw [show pn_fR M se p k 1 = 1 from (if_neg c).trans (if_pos c2)] at h
        exact br_t c2 (nm_r (nI_1 k) h)
      · rw [show pn_fR M se p k 1 = 0 from (if_neg c).trans (if_neg c2)] at h
        exact br_f c2 (nm_r (nI_1 k) h)
theorem xe_vR {n : Nat} {y : Int32} (hy : y = 0 ∨ y = 1) (h : post1 y) : wX_isValidReject_23 post1 P C T F K rc st rs ti ni cr hc nk ms ei us dn sa fi lo hi wa ic se lc rm w q ih vd ro no (n + 1) y (nI 4) := by
  rcases hy with rfl | rfl
  · exact br_t pp_44 ⟨rfl, h⟩
  · exact br_t pp_44 ⟨rfl, h⟩
theorem xa_vR (HP : pn_P P p) {M : Nat → Int32} (hM : ∀ f, f < 7 → ih f = M f) (h : post1 (pn_gR M se p (if M 1 = cr p then 1 else 0))) : wpX_isValidReject post1 (C, T, F, K, rc, st, rs, ti, ni, cr, hc, nk, ms, ei, us, dn, sa, fi, lo, hi, wa, ic, se, lc, rm, w, q, ih, vd, ro, no) P := by
  unfold wpX_isValidReject
  refine ⟨pp_v HP, ?_⟩
  rw [pp_n HP, hM 1 (by decide)]
  by_cases c : M 1 = cr p
  · rw [if_pos c] at h
    have y0 := pn_fR_01 (M := M) (se := se) (p := p) (k := 0) (y := 1) (Or.inr rfl)
    have y1 := pn_fR_01 (M := M) (se := se) (p := p) (k := 1) y0
    have y2 := pn_fR_01 (M := M) (se := se) (p := p) (k := 2) y1
    have y3 := pn_fR_01 (M := M) (se := se) (p := p) (k := 3) y2
    exact br_t c ⟨5, xs_vR HP (k := 0) hM (by decide) (Or.inr rfl) (xs_vR HP (k := 1) hM (by decide) y0 (xs_vR HP (k := 2) hM (by decide) y1 (xs_vR HP (k := 3) hM (by decide) y2 (xe_vR y3 h))))⟩
  · rw [if_neg c] at h
    have y0 := pn_fR_01 (M := M) (se := se) (p := p) (k := 0) (y := 0) (Or.inl rfl)
    have y1 := pn_fR_01 (M := M) (se := se) (p := p) (k := 1) y0
    have y2 := pn_fR_01 (M := M) (se := se) (p := p) (k := 2) y1
    have y3 := pn_fR_01 (M := M) (se := se) (p := p) (k := 3) y2
    exact br_f c ⟨5, xs_vR HP (k := 0) hM (by decide) (Or.inl rfl) (xs_vR HP (k := 1) hM (by decide) y0 (xs_vR HP (k := 2) hM (by decide) y1 (xs_vR HP (k := 3) hM (by decide) y2 (xe_vR y3 h))))⟩
end PX
end
section
def pn_OM (l g x : Int32) : Int32 := if x - 1 < l then (if g < x + 1 then x else x + 1) else x - 1
def pn_J (lo hi wa ic : Nat → Int32) (p : Nat) (M : Nat → Int32) : Nat → Int32 := fun k => if M (3 + k) = -1 then -1 else if lo (p * 4 + k) ≤ hi (p * 4 + k) then (if lo (p * 4 + k) ≤ M (3 + k) then (if M (3 + k) ≤ hi (p * 4 + k) then (if k = 2 then (if ic (p * 4 + k) = 0 then -1 else if M (3 + k) = wa (p * 4 + k) then pn_OM (lo (p * 4 + k)) (hi (p * 4 + k)) (wa (p * 4 + k)) else -1) else -1) else hi (p * 4 + k)) else lo (p * 4 + k)) else -2
def pn_o2 (x j : Int32) : Int32 := if j = -2 then 1 else x
def pn_o3 (x j : Int32) : Int32 := if j < 0 then x else 1
def pn_R (J : Nat → Int32) : Int32 := pn_o2 (pn_o2 (pn_o2 (pn_o2 0 (J 0)) (J 1)) (J 2)) (J 3)
def pn_N (J : Nat → Int32) : Int32 := pn_o3 (pn_o3 (pn_o3 (pn_o3 0 (J 0)) (J 1)) (J 2)) (J 3)
def pn_C (J : Nat → Int32) (n f : Int32) : Int32 := if pn_R J = 0 then (if pn_N J = 0 then 2 else if n < f then 3 else 4) else 4
def pn_Qv (c r j m : Int32) : Int32 := if c = 2 then m else if r = 0 then (if j < 0 then -1 else if c = 3 then j else m) else (if j = -2 then (if c = 3 then j else m) else -1)
def pn_Q (J M : Nat → Int32) (c : Int32) : Nat → Int32 := fun k => pn_Qv c (pn_R J) (J k) (M (3 + k))
def pn_ck (j : Int32) : Int32 := if j = -2 then 2 else if j < 0 then 0 else 1
theorem pn_o2_01 {x j : Int32} (h : x = 0 ∨ x = 1) : pn_o2 x j = 0 ∨ pn_o2 x j = 1 := by
  unfold pn_o2
  split
  · exact Or.inr rfl
  · exact h
theorem pn_o3_01 {x j : Int32} (h : x = 0 ∨ x = 1) : pn_o3 x j = 0 ∨ pn_o3 x j = 1 := by
  unfold pn_o3
  split
  · exact h
  · exact Or.inr rfl
theorem pn_inc {l g x : Int32} (hl : 0 ≤ l) (hg : g ≤ 65535) (h1 : l ≤ x) (h2 : x ≤ g) : 0 ≤ x + 1 := by
  have z : (0 : Int32).toInt = 0 := by decide
  have b : (65535 : Int32).toInt = 65535 := by decide
  have o : (1 : Int32).toInt = 1 := by decide
  rw [Int32.le_iff_toInt_le] at hl hg h1 h2
  rw [z] at hl
  rw [b] at hg
  rw [Int32.le_iff_toInt_le, z, Int32.toInt_add, o, Int.bmod_eq_of_le (by omega) (by omega)]
  omega
section CX
variable {C T F K rc : Int32} {st rs ti ni cr hc nk ms ei us dn sa fi lo hi wa ic se lc rm w q ih vd ro no : Nat → Int32} {P : Int32} {p : Nat} {post : St2 → Prop}
variable {post1 : Int32 → Prop} {u0 : St0} {M : Nat → Int32}
theorem xa_om {x : Int32} {i : Nat} (v : vp_in x 8) (e : x.toNatClampNeg = i) (h : post1 (pn_OM (lo i) (hi i) (wa i))) : wpX_otherMagic post1 (C, T, F, K, rc, st, rs, ti, ni, cr, hc, nk, ms, ei, us, dn, sa, fi, lo, hi, wa, ic, se, lc, rm, w, q, ih, vd, ro, no) x := by
  unfold wpX_otherMagic
  rw [e]
  unfold pn_OM at h
  refine ⟨v, v, ?_⟩
  by_cases c1 : wa i - 1 < lo i
  · rw [if_pos c1] at h
    refine br_t c1 ⟨v, v, ?_⟩
    by_cases c2 : hi i < wa i + 1
    · rw [if_pos c2] at h
      exact br_t c2 ⟨v, h⟩
    · rw [if_neg c2] at h
      exact br_f c2 ⟨v, h⟩
  · rw [if_neg c1] at h
    exact br_f c1 ⟨v, h⟩
theorem xa_judge (HP : pn_P P p) {k : Nat} (hk : k < 4) (h : post1 ((pn_J lo hi wa ic p M) k)) : wpX_judge post1 (C, T, F, K, rc, st, rs, ti, ni, cr, hc, nk, ms, ei, us, dn, sa, fi, lo, hi, wa, ic, se, lc, rm, w, q, ih, vd, ro, no) P (nI k) (M (3 + k)) := by
  unfold wpX_judge
  intro x4 e3
  have e4 : x4.toNatClampNeg = p * 4 + k := by rw [e3, pp_4 HP hk]
  have v4 : vp_in x4 8 := by rw [e3]; exact pp_v4 HP hk
  rw [e4]
  unfold pn_J at h
  by_cases c1 : M (3 + k) = -1
  · rw [if_pos c1] at h
    exact br_t c1 h
  rw [if_neg c1] at h
  refine br_f c1 ⟨v4, v4, ?_⟩
  by_cases c2 : lo (p * 4 + k) ≤ hi (p * 4 + k)
  · rw [if_pos c2] at h
    refine br_t c2 ⟨v4, ?_⟩
    by_cases c3 : lo (p * 4 + k) ≤ M (3 + k)
    · rw [if_pos c3] at h
      refine br_t c3 ⟨v4, ?_⟩
      by_cases c4 : M (3 + k) ≤ hi (p * 4 + k)
      · rw [if_pos c4] at h
        refine br_t c4 ?_
        have k2 : (nI k = 2) ↔ k = 2 := nI_eq (a := k) (b := 2) (by omega) (by decide)
        by_cases c5 : k = 2
        · rw [if_pos c5] at h
          refine br_t (k2.mpr c5) ⟨v4, ?_⟩
          by_cases c6 : ic (p * 4 + k) = 0
          · rw [if_pos c6] at h
            exact br_t c6 h
          · rw [if_neg c6] at h
            refine br_f c6 ⟨v4, ?_⟩
            by_cases c7 : M (3 + k) = wa (p * 4 + k)
            · rw [if_pos c7] at h
              exact br_t c7 (xa_om v4 e4 h)
            · rw [if_neg c7] at h
              exact br_f c7 h
        · rw [if_neg c5] at h
          exact br_f (fun z => c5 (k2.mp z)) h
      · rw [if_neg c4] at h
        exact br_f c4 ⟨v4, h⟩
    · rw [if_neg c3] at h
      exact br_f c3 ⟨v4, h⟩
  · rw [if_neg c2] at h
    exact br_f c2 h
theorem xe_49 {k : Nat} {z : Int32} (hk : k < 4) (h : post1 (if z = 0 then -1 else if rc = 3 then vd k else ih (3 + k))) : wX_replyOption_49 post1 (nI k) z C T F K rc st rs ti ni cr hc nk ms ei us dn sa fi lo hi wa ic se lc rm w q ih vd ro no := by
  unfold wX_replyOption_49
  rw [pp_3 hk, nI_clamp (n := k) (by omega)]
  by_cases c1 : z = 0
  · rw [if_pos c1] at h
    exact br_t c1 h
  · rw [if_neg c1] at h
    refine br_f c1 ?_
    by_cases c2 : rc = 3
    · rw [if_pos c2] at h
      exact br_t c2 ⟨vp_in_nI hk (by decide), h⟩
    · rw [if_neg c2] at h
      exact br_f c2 ⟨pp_v3 hk, h⟩
theorem xa_rep {k : Nat} {y j m : Int32} (hk : k < 4) (hv : vd k = j) (hm : ih (3 + k) = m) (h : post1 (pn_Qv rc y j m)) : wpX_replyOption post1 (C, T, F, K, rc, st, rs, ti, ni, cr, hc, nk, ms, ei, us, dn, sa, fi, lo, hi, wa, ic, se, lc, rm, w, q, ih, vd, ro, no) (nI k) y := by
  unfold wpX_replyOption
  show (rc = 2 → _) ∧ (¬ rc = 2 → _)
  rw [pp_3 hk, nI_clamp (n := k) (by omega), hv, hm]
  unfold pn_Qv at h
  by_cases c1 : rc = 2
  · rw [if_pos c1] at h
    exact br_t c1 ⟨pp_v3 hk, h⟩
  rw [if_neg c1] at h
  refine br_f c1 ?_
  by_cases c2 : y = 0
  · rw [if_pos c2] at h
    refine br_t c2 ⟨vp_in_nI hk (by decide), ?_⟩
    by_cases c3 : j < 0
    · rw [if_pos c3] at h
      exact br_t c3 (xe_49 hk (by rw [if_pos rfl]; exact h))
    · rw [if_neg c3] at h
      exact br_f c3 (xe_49 hk (by rw [if_neg (by decide), hv, hm]; exact h))
  · rw [if_neg c2] at h
    refine br_f c2 ⟨vp_in_nI hk (by decide), ?_⟩
    by_cases c3 : j = -2
    · rw [if_pos c3] at h
      exact br_t c3 (xe_49 hk (by rw [if_neg (by decide), hv, hm]; exact h))
    · rw [if_neg c3] at h
      exact br_f c3 (xe_49 hk (by rw [if_pos rfl]; exact h))
theorem xs_136 {n k : Nat} {y j m : Int32} (hk : k < 4) (hv : vd k = j) (hm : ih (3 + k) = m) (h : wX_classify_136 post y C T F K rc n (nI (k + 1)) st rs ti ni cr hc nk ms ei us dn sa fi lo hi wa ic se lc rm w q ih vd (upd ro k (pn_Qv rc y j m)) no) : wX_classify_136 post y C T F K rc (n + 1) (nI k) st rs ti ni cr hc nk ms ei us dn sa fi lo hi wa ic se lc rm w q ih vd ro no := by
  refine br_f (pp_g4 hk) (xa_rep hk hv hm ⟨vp_in_nI hk (by decide), ?_⟩)
  rw [nI_clamp (n := k) (by omega)]
  exact nm_e (nm_r (nI_1 k) h)
theorem xa_136 {y : Int32} {J M : Nat → Int32} (hv : ∀ k, k < 4 → vd k = J k) (hM : ∀ f, f < 7 → ih f = M f) (h : ∀ ro', (∀ k, k < 4 → ro' k = pn_Qv rc y (J k) (M (3 + k))) → post (C, T, F, K, rc, st, rs, ti, ni, cr, hc, nk, ms, ei, us, dn, sa, fi, lo, hi, wa, ic, se, lc, rm, w, q, ih, vd, ro', no)) : ∃ n, wX_classify_136 post y C T F K rc n 0 st rs ti ni cr hc nk ms ei us dn sa fi lo hi wa ic se lc rm w q ih vd ro no := by
  refine ⟨5, xs_136 (k := 0) (by decide) (hv 0 (by decide)) (hM (3 + 0) (by decide)) (xs_136 (k := 1) (by decide) (hv 1 (by decide)) (hM (3 + 1) (by decide)) (xs_136 (k := 2) (by decide) (hv 2 (by decide)) (hM (3 + 2) (by decide)) (xs_136 (k := 3) (by decide) (hv 3 (by decide)) (hM (3 + 3) (by decide)) (br_t pp_44 (h _ ?_)))))⟩
  intro k hk
  rcases pp_k4 hk with rfl | rfl | rfl | rfl <;> rfl
theorem xe_57 {J7 : Int32 → Int32 → Int32 → (Nat → Int32) → (Nat → Int32) → (Nat → Int32) → (Nat → Int32) → (Nat → Int32) → (Nat → Int32) → (Nat → Int32) → (Nat → Int32) → (Nat → Int32) → (Nat → Int32) → (Nat → Int32) → (Nat → Int32) → (Nat → Int32) → (Nat → Int32) → (Nat → Int32) → (Nat → Int32) → (Nat → Int32) → (Nat → Int32) → (Nat → Int32) → (Nat → Int32) → (Nat → Int32) → (Nat → Int32) → (Nat → Int32) → (Nat → Int32) → (Nat → Int32) → (Nat → Int32) → Prop} {k : Nat} {x3 z : Int32} (hk : k < 4) (hx : x3 = 0 ∨ x3 = 1) (h : J7 z (pn_o3 x3 (vd k)) (nI (k + 1)) st rs ti ni cr hc nk ms ei us dn sa fi lo hi wa ic se lc rm w q ih vd ro no) : wX_classify_57 post J7 P x3 (nI k) z C T F K rc st rs ti ni cr hc nk ms ei us dn sa fi lo hi wa ic se lc rm w q ih vd ro no := by
  unfold wX_classify_57
  rw [nI_clamp (n := k) (by omega)]
  rcases hx with rfl | rfl
  · refine br_t rfl ⟨vp_in_nI hk (by decide), ?_⟩
    by_cases c : vd k < 0
    · rw [show pn_o3 0 (vd k) = 0 from if_pos c] at h
      exact br_t c (br_t rfl (nm_r (nI_1 k) h))
    · rw [show pn_o3 0 (vd k) = 1 from if_neg c] at h
      exact br_f c (br_f (by decide) (nm_r (nI_1 k) h))
  · rw [show pn_o3 1 (vd k) = 1 from ite_self 1] at h
    exact br_f (by decide) (nm_r (nI_1 k) h)
theorem xs_c7 (HP : pn_P P p) {n k : Nat} {x2 x3 : Int32} (hM : ∀ f, f < 7 → ih f = M f) (hk : k < 4) (h2 : x2 = 0 ∨ x2 = 1) (h3 : x3 = 0 ∨ x3 = 1) (h : wX_classify_7 post P C T F K rc n (pn_o2 x2 ((pn_J lo hi wa ic p M) k)) (pn_o3 x3 ((pn_J lo hi wa ic p M) k)) (nI (k + 1)) st rs ti ni cr hc nk ms ei us dn sa fi lo hi wa ic se lc rm w q ih (upd vd k ((pn_J lo hi wa ic p M) k)) ro no) : wX_classify_7 post P C T F K rc (n + 1) x2 x3 (nI k) st rs ti ni cr hc nk ms ei us dn sa fi lo hi wa ic se lc rm w q ih vd ro no := by
  refine br_f (pp_g4 hk) ⟨pp_v3 hk, ?_⟩
  rw [pp_3 hk, hM (3 + k) (by omega)]
  refine xa_judge HP hk ⟨vp_in_nI hk (by decide), ?_⟩
  rw [nI_clamp (n := k) (by omega)]
  refine nm_e ?_
  rw [pn_at]
  have hv : upd vd k ((pn_J lo hi wa ic p M) k) k = (pn_J lo hi wa ic p M) k := pn_at _ _ _
  rcases h2 with rfl | rfl
  · refine br_t rfl ⟨vp_in_nI hk (by decide), ?_⟩
    by_cases c : (pn_J lo hi wa ic p M) k = -2
    · rw [show pn_o2 0 ((pn_J lo hi wa ic p M) k) = 1 from if_pos c] at h
      refine br_t c (xe_57 hk h3 ?_)
      rw [hv]
      exact h
    · rw [show pn_o2 0 ((pn_J lo hi wa ic p M) k) = 0 from if_neg c] at h
      refine br_f c (xe_57 hk h3 ?_)
      rw [hv]
      exact h
  · rw [show pn_o2 1 ((pn_J lo hi wa ic p M) k) = 1 from ite_self 1] at h
    refine br_f (by decide) (xe_57 hk h3 ?_)
    rw [hv]
    exact h
theorem xe_c7 (HP : pn_P P p) {n : Nat} {J : Nat → Int32} (hM : ∀ f, f < 7 → ih f = M f) (hv : ∀ k, k < 4 → vd k = J k) (h : ∀ ro', (∀ k, k < 4 → ro' k = pn_Q J M (pn_C J (nk p) F) k) → post (C, T, F, K, pn_C J (nk p) F, st, rs, ti, ni, cr, hc, nk, ms, ei, us, dn, sa, fi, lo, hi, wa, ic, se, lc, rm, w, q, ih, vd, ro', no)) : wX_classify_7 post P C T F K rc (n + 1) (pn_R J) (pn_N J) (nI 4) st rs ti ni cr hc nk ms ei us dn sa fi lo hi wa ic se lc rm w q ih vd ro no := by
  refine br_t pp_44 ?_
  rw [pp_n HP]
  by_cases c1 : pn_R J = 0
  · refine br_t c1 ?_
    by_cases c2 : pn_N J = 0
    · rw [show pn_C J (nk p) F = 2 from (if_pos c1).trans (if_pos c2)] at h
      exact br_t c2 (xa_136 hv hM h)
    · refine br_f c2 ⟨pp_v HP, ?_⟩
      by_cases c3 : nk p < F
      · rw [show pn_C J (nk p) F = 3 from (if_pos c1).trans ((if_neg c2).trans (if_pos c3))] at h
        exact br_t c3 (xa_136 hv hM h)
      · rw [show pn_C J (nk p) F = 4 from (if_pos c1).trans ((if_neg c2).trans (if_neg c3))] at h
        exact br_f c3 (xa_136 hv hM h)
  · rw [show pn_C J (nk p) F = 4 from if_neg c1] at h
    exact br_f c1 (xa_136 hv hM h)
theorem xa_class (HP : pn_P P p) (hM : ∀ f, f < 7 → ih f = M f) (h : ∀ vd' ro', (∀ k, k < 4 → ro' k = pn_Q (pn_J lo hi wa ic p M) M (pn_C (pn_J lo hi wa ic p M) (nk p) F) k) → post (C, T, F, K, pn_C (pn_J lo hi wa ic p M) (nk p) F, st, rs, ti, ni, cr, hc, nk, ms, ei, us, dn, sa, fi, lo, hi, wa, ic, se, lc, rm, w, q, ih, vd', ro', no)) : wpX_classify post (C, T, F, K, rc, st, rs, ti, ni, cr, hc, nk, ms, ei, us, dn, sa, fi, lo, hi, wa, ic, se, lc, rm, w, q, ih, vd, ro, no) P := by
  unfold wpX_classify
  have z : (0 : Int32) = 0 ∨ (0 : Int32) = 1 := Or.inl rfl
  have a0 := pn_o2_01 (j := (pn_J lo hi wa ic p M) 0) z
  have a1 := pn_o2_01 (j := (pn_J lo hi wa ic p M) 1) a0
  have a2 := pn_o2_01 (j := (pn_J lo hi wa ic p M) 2) a1
  have b0 := pn_o3_01 (j := (pn_J lo hi wa ic p M) 0) z
  have b1 := pn_o3_01 (j := (pn_J lo hi wa ic p M) 1) b0
  have b2 := pn_o3_01 (j := (pn_J lo hi wa ic p M) 2) b1
  refine ⟨5, xs_c7 HP (k := 0) hM (by decide) z z (xs_c7 HP (k := 1) hM (by decide) a0 b0 (xs_c7 HP (k := 2) hM (by decide) a1 b1 (xs_c7 HP (k := 3) hM (by decide) a2 b2 (xe_c7 (J := (pn_J lo hi wa ic p M)) HP hM ?_ (fun ro' hr => h _ ro' hr)))))⟩
  intro k hk
  rcases pp_k4 hk with rfl | rfl | rfl | rfl <;> rfl
end CX
end
section
theorem pn_4_k (f : Nat → Int32) (b : Nat) (m : Nat → Int32) {k : Nat} (hk : k < 4) : pn_4 f b m (b + k) = m k := by
  rcases pp_k4 hk with rfl | rfl | rfl | rfl
  · exact pn_4_0 f b m
  · exact pn_4_1 f b m
  · exact pn_4_2 f b m
  · exact pn_4_3 f b m
theorem pn_4_ne (f : Nat → Int32) {b : Nat} (m : Nat → Int32) {j : Nat} (h : ¬ (b ≤ j ∧ j < b + 4)) : pn_4 f b m j = f j := by
  unfold pn_4
  rw [pn_ne _ _ (by omega), pn_ne _ _ (by omega), pn_ne _ _ (by omega), pn_ne _ _ (by omega)]
theorem pn_7_k (f : Nat → Int32) (b : Nat) (m : Nat → Int32) {k : Nat} (hk : k < 7) : pn_7 f b m (b + k) = m k := by
  have h : k = 0 ∨ k = 1 ∨ k = 2 ∨ k = 3 ∨ k = 4 ∨ k = 5 ∨ k = 6 := by omega
  unfold pn_7
  rcases h with rfl | rfl | rfl | rfl | rfl | rfl | rfl
  · rw [pn_ne _ _ (by omega), pn_ne _ _ (by omega), pn_ne _ _ (by omega), pn_ne _ _ (by omega), pn_ne _ _ (by omega), pn_ne _ _ (by omega), pn_at]
  · rw [pn_ne _ _ (by omega), pn_ne _ _ (by omega), pn_ne _ _ (by omega), pn_ne _ _ (by omega), pn_ne _ _ (by omega), pn_at]
  · rw [pn_ne _ _ (by omega), pn_ne _ _ (by omega), pn_ne _ _ (by omega), pn_ne _ _ (by omega), pn_at]
  · rw [pn_ne _ _ (by omega), pn_ne _ _ (by omega), pn_ne _ _ (by omega), pn_at]
  · rw [pn_ne _ _ (by omega), pn_ne _ _ (by omega), pn_at]
  · rw [pn_ne _ _ (by omega), pn_at]
  · rw [pn_at]
theorem pn_7_ne (f : Nat → Int32) {b : Nat} (m : Nat → Int32) {j : Nat} (h : ¬ (b ≤ j ∧ j < b + 7)) : pn_7 f b m j = f j := by
  unfold pn_7
  rw [pn_ne _ _ (by omega), pn_ne _ _ (by omega), pn_ne _ _ (by omega), pn_ne _ _ (by omega), pn_ne _ _ (by omega), pn_ne _ _ (by omega), pn_ne _ _ (by omega)]
theorem iv_succ {x n : Int32} {N : Nat} (hx : x ≤ n) (hn : n ≤ nI N) (hN : N + 1 < 2 ^ 31) : x ≤ n + 1 ∧ ¬ x = n + 1 := by
  have hN1 : (nI N).toInt = N := nI_toInt (by omega)
  have one : (1 : Int32).toInt = 1 := by decide
  have l1 := Int32.minValue_le_toInt n
  rw [Int32.le_iff_toInt_le] at hx hn
  have e : (n + 1).toInt = n.toInt + 1 := by
    rw [Int32.toInt_add, one]
    have := Int32.le_toInt n
    exact Int.bmod_eq_of_le (by omega) (by omega)
  refine ⟨?_, fun z => ?_⟩
  · rw [Int32.le_iff_toInt_le, e]; omega
  · have := congrArg Int32.toInt z
    rw [e] at this
    omega
def iv_A (lo hi wa ic : Nat → Int32) (p : Nat) : Prop := ∀ k, k < 4 → ¬ ic (p * 4 + k) = 0 → lo (p * 4 + k) ≤ wa (p * 4 + k) ∧ wa (p * 4 + k) ≤ hi (p * 4 + k)
def iv_R (lo hi f : Nat → Int32) (p : Nat) : Prop := ∀ k, k < 4 → f (p * 4 + k) = -1 ∨ (lo (p * 4 + k) ≤ f (p * 4 + k) ∧ f (p * 4 + k) ≤ hi (p * 4 + k))
def iv_D (cr hc se lc rm : Nat → Int32) (p q : Nat) : Prop := hc q = cr p ∧ ∀ k, k < 4 → lc (p * 4 + k) = se (p * 4 + k) ∧ rm (q * 4 + k) = se (p * 4 + k)
def iv_F (cr hc lo hi wa ic se lc rm : Nat → Int32) (s p q : Nat) : Prop := (4 ≤ s → iv_A lo hi wa ic p ∧ iv_R lo hi se p) ∧ (6 ≤ s → 0 < cr p) ∧ (s = 7 ∨ s = 9 → iv_D cr hc se lc rm p q) ∧ (8 ≤ s → iv_R lo hi rm p)
def iv_m (cr hc se rm : Nat → Int32) (d e : Nat) (m : Nat → Int32) : Prop := (m 0 = 1 → m 1 ≤ cr d ∧ (m 1 = cr d → ∀ k, k < 4 → m (3 + k) = se (d * 4 + k))) ∧ (m 0 = 2 → m 1 ≤ hc d ∧ (m 1 = cr e → ∀ k, k < 4 → rm (d * 4 + k) = se (e * 4 + k)))
def iv_w (cr hc se rm w q : Nat → Int32) (d e : Nat) : Prop := ∀ s j, q d = nI s → s ≤ 8 → j < s → iv_m cr hc se rm d e (fun f => w (d * 56 + j * 7 + f))
def iv_n (N : Nat) (ni cr hc : Nat → Int32) (p q : Nat) : Prop := 0 ≤ cr p ∧ cr p ≤ ni p ∧ ni p ≤ nI N ∧ hc q ≤ cr p
def iv_K (N : Nat) (ni cr hc se rm w q : Nat → Int32) (d e : Nat) : Prop := iv_n N ni cr hc d e ∧ iv_n N ni cr hc e d ∧ iv_w cr hc se rm w q d e ∧ iv_w cr hc se rm w q e d
section IV
variable {ni cr hc lo hi wa ic se lc rm w q m m2 : Nat → Int32} {N p d e s t : Nat}
theorem iv_K_sw (K : iv_K N ni cr hc se rm w q d e) : iv_K N ni cr hc se rm w q e d := ⟨K.2.1, K.1, K.2.2.2, K.2.2.1⟩
theorem iv_F_le {s2 : Nat} (I : iv_F cr hc lo hi wa ic se lc rm s d e) (h1 : 4 ≤ s2 → 4 ≤ s) (h2 : 6 ≤ s2 → 6 ≤ s) (h3 : s2 = 7 ∨ s2 = 9 → s = 7 ∨ s = 9) (h4 : 8 ≤ s2 → 8 ≤ s) : iv_F cr hc lo hi wa ic se lc rm s2 d e :=
  ⟨fun z => I.1 (h1 z), fun z => I.2.1 (h2 z), fun z => I.2.2.1 (h3 z), fun z => I.2.2.2 (h4 z)⟩
theorem iv_m_x (h : ∀ f, f < 7 → m2 f = m f) (I : iv_m cr hc se rm d e m) : iv_m cr hc se rm d e m2 := by
  refine ⟨fun h0 => ?_, fun h0 => ?_⟩
  · rw [h 0 (by decide)] at h0
    obtain ⟨a, b⟩ := I.1 h0
    rw [h 1 (by decide)]
    exact ⟨a, fun z k hk => by rw [h (3 + k) (by omega)]; exact b z k hk⟩
  · rw [h 0 (by decide)] at h0
    obtain ⟨a, b⟩ := I.2 h0
    rw [h 1 (by decide)]
    exact ⟨a, b⟩
theorem iv_m_no (h1 : ¬ m 0 = 1) (h2 : ¬ m 0 = 2) : iv_m cr hc se rm d e m := ⟨fun z => absurd z h1, fun z => absurd z h2⟩
theorem iv_w_app (pq : d + e = 1) {c i x0 x1 x2 x3 : Int32} {dt : Int32} (hs : q d = nI s) (hs8 : s ≤ 8) (I : iv_w cr hc se rm w q d e) (hm : iv_m cr hc se rm d e (pn_m c i dt x0 x1 x2 x3)) : iv_w cr hc se rm (pn_aw w q d c i dt x0 x1 x2 x3) (pn_aq q d) d e := by
  by_cases h8 : s < 8
  · rw [pn_aw_lt hs h8, pn_aq_lt hs h8]
    intro s2 j e2 hs2 hj
    rw [pn_at, hs, nI_1] at e2
    have e3 : s + 1 = s2 := (nI_eq (by omega) (by omega)).mp e2
    by_cases ej : j = s
    · refine iv_m_x ?_ hm
      intro f hf
      show pn_7 w (d * 56 + s * 7) (pn_m c i dt x0 x1 x2 x3) (d * 56 + j * 7 + f) = _
      rw [ej]
      exact pn_7_k _ _ _ hf
    · refine iv_m_x ?_ (I s j hs hs8 (by omega))
      intro f hf
      exact pn_7_ne _ _ (by omega)
  · rw [pn_aw_ge hs h8 hs8, pn_aq_ge hs h8 hs8]
    exact I
theorem iv_w_oth (pq : d + e = 1) {c i x0 x1 x2 x3 : Int32} {dt : Int32} (hs : q d = nI s) (hs8 : s ≤ 8) (I : iv_w cr hc se rm w q e d) : iv_w cr hc se rm (pn_aw w q d c i dt x0 x1 x2 x3) (pn_aq q d) e d := by
  by_cases h8 : s < 8
  · rw [pn_aw_lt hs h8, pn_aq_lt hs h8]
    intro s2 j e2 hs2 hj
    rw [pn_ne _ _ (by omega)] at e2
    refine iv_m_x ?_ (I s2 j e2 hs2 hj)
    intro f hf
    exact pn_7_ne _ _ (by omega)
  · rw [pn_aw_ge hs h8 hs8, pn_aq_ge hs h8 hs8]
    exact I
theorem iv_K_app (pq : d + e = 1) {c i x0 x1 x2 x3 : Int32} {dt : Int32} (hs : q d = nI s) (hs8 : s ≤ 8) (K : iv_K N ni cr hc se rm w q d e) (hm : iv_m cr hc se rm d e (pn_m c i dt x0 x1 x2 x3)) : iv_K N ni cr hc se rm (pn_aw w q d c i dt x0 x1 x2 x3) (pn_aq q d) d e :=
  ⟨K.1, K.2.1, iv_w_app pq hs hs8 K.2.2.1 hm, iv_w_oth pq hs hs8 K.2.2.2⟩
theorem iv_w_tk (pq : d + e = 1) (hs : q d = nI (s + 1)) (hs8 : s + 1 ≤ 8) (I : iv_w cr hc se rm w q d e) : iv_w cr hc se rm (pn_sh w (d * 56) (s * 7)) (upd q d (nI s)) d e := by
  intro s2 j e2 hs2 hj
  rw [pn_at] at e2
  have e3 : s = s2 := (nI_eq (by omega) (by omega)).mp e2
  refine iv_m_x ?_ (I (s + 1) (j + 1) hs hs8 (by omega))
  intro f hf
  show (if d * 56 ≤ d * 56 + j * 7 + f ∧ d * 56 + j * 7 + f < d * 56 + s * 7 then w (d * 56 + j * 7 + f + 7) else w (d * 56 + j * 7 + f)) = w (d * 56 + (j + 1) * 7 + f)
  rw [if_pos (by omega)]
  exact congrArg w (by omega)
theorem iv_w_tko (pq : d + e = 1) (hs8 : s + 1 ≤ 8) (I : iv_w cr hc se rm w q e d) : iv_w cr hc se rm (pn_sh w (d * 56) (s * 7)) (upd q d (nI s)) e d := by
  intro s2 j e2 hs2 hj
  rw [pn_ne _ _ (by omega)] at e2
  refine iv_m_x ?_ (I s2 j e2 hs2 hj)
  intro f hf
  show (if d * 56 ≤ e * 56 + j * 7 + f ∧ e * 56 + j * 7 + f < d * 56 + s * 7 then w (e * 56 + j * 7 + f + 7) else w (e * 56 + j * 7 + f)) = w (e * 56 + j * 7 + f)
  rw [if_neg (by omega)]
theorem iv_K_tk (pq : d + e = 1) (hs : q d = nI (s + 1)) (hs8 : s + 1 ≤ 8) (K : iv_K N ni cr hc se rm w q d e) : iv_K N ni cr hc se rm (pn_sh w (d * 56) (s * 7)) (upd q d (nI s)) d e ∧ iv_m cr hc se rm d e (fun f => w (d * 56 + f)) := by
  refine ⟨⟨K.1, K.2.1, iv_w_tk pq hs hs8 K.2.2.1, iv_w_tko pq hs8 K.2.2.2⟩, ?_⟩
  refine iv_m_x ?_ (K.2.2.1 (s + 1) 0 hs hs8 (by omega))
  intro f hf
  exact congrArg w (by omega)
theorem iv_K_N {M : Nat} (hNM : N ≤ M) (hM : M < 2 ^ 31) (K : iv_K N ni cr hc se rm w q d e) : iv_K M ni cr hc se rm w q d e := by
  have h := nI_le hNM hM
  exact ⟨⟨K.1.1, K.1.2.1, Int32.le_trans K.1.2.2.1 h, K.1.2.2.2⟩, ⟨K.2.1.1, K.2.1.2.1, Int32.le_trans K.2.1.2.2.1 h, K.2.1.2.2.2⟩, K.2.2⟩
end IV
section IW
variable {ni cr hc lo hi wa ic se lc rm w q m M R : Nat → Int32} {N p d e s t : Nat}
theorem iv_up {n : Int32} (h0 : 0 ≤ n) (hn : n ≤ nI N) (hN : N + 1 < 2 ^ 31) : n + 1 ≤ nI (N + 1) ∧ 0 < n + 1 := by
  have hN1 : (nI N).toInt = N := nI_toInt (by omega)
  have hN2 : (nI (N + 1)).toInt = (N + 1 : Nat) := nI_toInt hN
  have one : (1 : Int32).toInt = 1 := by decide
  have zz : (0 : Int32).toInt = 0 := by decide
  rw [Int32.le_iff_toInt_le] at h0 hn
  have e : (n + 1).toInt = n.toInt + 1 := by
    rw [Int32.toInt_add, one]
    exact Int.bmod_eq_of_le (by omega) (by omega)
  refine ⟨?_, ?_⟩
  · rw [Int32.le_iff_toInt_le, e, hN2]; omega
  · rw [Int32.lt_iff_toInt_lt, e, zz]; omega
theorem iv_w_map {cr2 hc2 se2 rm2 : Nat → Int32} (h : ∀ m, iv_m cr hc se rm d e m → iv_m cr2 hc2 se2 rm2 d e m) (I : iv_w cr hc se rm w q d e) : iv_w cr2 hc2 se2 rm2 w q d e :=
  fun s j a b c => h _ (I s j a b c)
theorem iv_F_8 (I : iv_F cr hc lo hi wa ic se lc rm 6 d e) (h : iv_R lo hi rm d) : iv_F cr hc lo hi wa ic se lc rm 8 d e :=
  ⟨fun _ => I.1 (by decide), fun _ => I.2.1 (by decide), fun z => absurd z (by decide), fun _ => h⟩
theorem iv_F_7 (I : iv_F cr hc lo hi wa ic se lc rm 6 d e) (h : iv_D cr hc se lc rm d e) : iv_F cr hc lo hi wa ic se lc rm 7 d e :=
  ⟨fun _ => I.1 (by decide), fun _ => I.2.1 (by decide), fun _ => h, fun z => absurd z (by decide)⟩
theorem iv_F_9 (I : iv_F cr hc lo hi wa ic se lc rm 6 d e) (h : iv_D cr hc se lc rm d e) (h2 : iv_R lo hi rm d) : iv_F cr hc lo hi wa ic se lc rm 9 d e :=
  ⟨fun _ => I.1 (by decide), fun _ => I.2.1 (by decide), fun _ => h, fun _ => h2⟩
theorem iv_F_0 (hs : s < 4) : iv_F cr hc lo hi wa ic se lc rm s d e :=
  ⟨fun z => absurd z (by omega), fun z => absurd z (by omega), fun z => absurd z (by omega), fun z => absurd z (by omega)⟩
theorem iv_scr (pq : d + e = 1) (hs : q d = nI s) (hs8 : s ≤ 8) (hN : N + 1 < 2 ^ 31) (K : iv_K N ni cr hc se rm w q d e) (A : iv_A lo hi wa ic d) (Fe : iv_F cr hc lo hi wa ic se lc rm t e d) :
    iv_K (N + 1) (upd ni d (ni d + 1)) (upd cr d (ni d + 1)) hc (pn_4 se (d * 4) (pn_g ic wa d)) rm (pn_aw w q d 1 (ni d + 1) 0 (pn_g ic wa d 0) (pn_g ic wa d 1) (pn_g ic wa d 2) (pn_g ic wa d 3)) (pn_aq q d) d e
    ∧ iv_F (upd cr d (ni d + 1)) hc lo hi wa ic (pn_4 se (d * 4) (pn_g ic wa d)) lc rm 6 d e
    ∧ iv_F (upd cr d (ni d + 1)) hc lo hi wa ic (pn_4 se (d * 4) (pn_g ic wa d)) lc rm t e d := by
  obtain ⟨⟨n1, n2, n3, n4⟩, ⟨k1, k2, k3, k4⟩, W1, W2⟩ := K
  have ne : e ≠ d := by omega
  have ce : upd cr d (ni d + 1) e = cr e := pn_ne _ _ ne
  have cd : upd cr d (ni d + 1) d = ni d + 1 := pn_at _ _ _
  have see : ∀ k, k < 4 → pn_4 se (d * 4) (pn_g ic wa d) (e * 4 + k) = se (e * 4 + k) := fun k hk => pn_4_ne _ _ (by omega)
  have sed : ∀ k, k < 4 → pn_4 se (d * 4) (pn_g ic wa d) (d * 4 + k) = pn_g ic wa d k := fun k hk => pn_4_k _ _ _ hk
  have u := iv_up (Int32.le_trans n1 n2) n3 hN
  have nN := nI_le (Nat.le_succ N) hN
  have V1 : iv_w (upd cr d (ni d + 1)) hc (pn_4 se (d * 4) (pn_g ic wa d)) rm w q d e := by
    refine iv_w_map ?_ W1
    intro m I
    refine ⟨fun h0 => ?_, fun h0 => ?_⟩
    · obtain ⟨a, b⟩ := I.1 h0
      obtain ⟨x1, x2⟩ := iv_succ (Int32.le_trans a n2) n3 hN
      rw [cd]
      exact ⟨x1, fun z => absurd z x2⟩
    · obtain ⟨a, b⟩ := I.2 h0
      rw [ce]
      exact ⟨a, fun z k hk => by rw [see k hk]; exact b z k hk⟩
  have V2 : iv_w (upd cr d (ni d + 1)) hc (pn_4 se (d * 4) (pn_g ic wa d)) rm w q e d := by
    refine iv_w_map ?_ W2
    intro m I
    refine ⟨fun h0 => ?_, fun h0 => ?_⟩
    · obtain ⟨a, b⟩ := I.1 h0
      rw [ce]
      exact ⟨a, fun z k hk => by rw [see k hk]; exact b z k hk⟩
    · obtain ⟨a, b⟩ := I.2 h0
      obtain ⟨x1, x2⟩ := iv_succ (Int32.le_trans a (Int32.le_trans n4 n2)) n3 hN
      rw [cd]
      exact ⟨a, fun z => absurd z x2⟩
  have K0 : iv_K (N + 1) (upd ni d (ni d + 1)) (upd cr d (ni d + 1)) hc (pn_4 se (d * 4) (pn_g ic wa d)) rm w q d e := by
    refine ⟨⟨?_, ?_, ?_, ?_⟩, ⟨?_, ?_, ?_, ?_⟩, V1, V2⟩
    · rw [cd]; exact Int32.le_of_lt u.2
    · rw [cd, pn_at]; exact Int32.le_refl _
    · rw [pn_at]; exact u.1
    · rw [cd]; exact (iv_succ (Int32.le_trans n4 n2) n3 hN).1
    · rw [ce]; exact k1
    · rw [ce, pn_ne _ _ ne]; exact k2
    · rw [pn_ne _ _ ne]; exact Int32.le_trans k3 nN
    · rw [ce]; exact k4
  refine ⟨iv_K_app pq hs hs8 K0 ?_, ?_, ?_⟩
  · refine ⟨fun _ => ?_, fun z => absurd z (show ¬ (1 : Int32) = 2 by decide)⟩
    refine ⟨?_, fun _ k hk => ?_⟩
    · rw [cd]; exact Int32.le_refl _
    · rw [sed k hk]
      rcases pp_k4 hk with rfl | rfl | rfl | rfl <;> rfl
  · refine ⟨fun _ => ⟨A, ?_⟩, fun _ => ?_, fun z => absurd z (by decide), fun z => absurd z (by decide)⟩
    · intro k hk
      rw [sed k hk]
      unfold pn_g
      by_cases c : ic (d * 4 + k) = 0
      · rw [if_pos c]; exact Or.inl rfl
      · rw [if_neg c]; exact Or.inr (A k hk c)
    · rw [cd]; exact u.2
  · refine ⟨fun z => ⟨(Fe.1 z).1, ?_⟩, fun z => ?_, fun z => ?_, Fe.2.2.2⟩
    · intro k hk
      rw [see k hk]
      exact (Fe.1 z).2 k hk
    · rw [ce]; exact Fe.2.1 z
    · obtain ⟨a, b⟩ := Fe.2.2.1 z
      refine ⟨by rw [ce]; exact a, fun k hk => ?_⟩
      rw [see k hk]
      exact b k hk
theorem iv_sca (pq : d + e = 1) {i : Int32} (hs : q d = nI s) (hs8 : s ≤ 8) (hi1 : hc d = i) (hq : i = cr e → ∀ k, k < 4 → R k = se (e * 4 + k)) (ha : ∀ k, k < 4 → R k = -1 ∨ (lo (d * 4 + k) ≤ R k ∧ R k ≤ hi (d * 4 + k))) (K : iv_K N ni cr hc se rm w q d e) (Fe : iv_F cr hc lo hi wa ic se lc rm t e d) :
    iv_K N ni cr hc se (pn_4 rm (d * 4) R) (pn_aw w q d 2 i 0 (R 0) (R 1) (R 2) (R 3)) (pn_aq q d) d e ∧ iv_R lo hi (pn_4 rm (d * 4) R) d ∧ iv_F cr hc lo hi wa ic se lc (pn_4 rm (d * 4) R) t e d ∧ (∀ k, k < 4 → pn_4 rm (d * 4) R (e * 4 + k) = rm (e * 4 + k)) := by
  obtain ⟨N1, ⟨k1, k2, k3, k4⟩, W1, W2⟩ := K
  have rme : ∀ k, k < 4 → pn_4 rm (d * 4) R (e * 4 + k) = rm (e * 4 + k) := fun k hk => pn_4_ne _ _ (by omega)
  have rmd : ∀ k, k < 4 → pn_4 rm (d * 4) R (d * 4 + k) = R k := fun k hk => pn_4_k _ _ _ hk
  have V1 : iv_w cr hc se (pn_4 rm (d * 4) R) w q d e := by
    refine iv_w_map ?_ W1
    intro m I
    refine ⟨I.1, fun h0 => ?_⟩
    obtain ⟨a, b⟩ := I.2 h0
    refine ⟨a, fun z k hk => ?_⟩
    rw [rmd k hk]
    refine hq ?_ k hk
    rw [← hi1]
    rw [z] at a
    exact Int32.le_antisymm k4 a
  have V2 : iv_w cr hc se (pn_4 rm (d * 4) R) w q e d := by
    refine iv_w_map ?_ W2
    intro m I
    refine ⟨I.1, fun h0 => ?_⟩
    obtain ⟨a, b⟩ := I.2 h0
    exact ⟨a, fun z k hk => by rw [rme k hk]; exact b z k hk⟩
  refine ⟨iv_K_app pq hs hs8 ⟨N1, ⟨k1, k2, k3, k4⟩, V1, V2⟩ ?_, ?_, ?_, rme⟩
  · refine ⟨fun z => absurd z (show ¬ (2 : Int32) = 1 by decide), fun _ => ⟨?_, fun z k hk => ?_⟩⟩
    · show i ≤ hc d
      rw [hi1]; exact Int32.le_refl _
    · rw [rmd k hk]
      exact hq z k hk
  · intro k hk
    rw [rmd k hk]
    exact ha k hk
  · refine ⟨Fe.1, Fe.2.1, fun z => ?_, fun z k hk => ?_⟩
    · obtain ⟨a, b⟩ := Fe.2.2.1 z
      refine ⟨a, fun k hk => ⟨(b k hk).1, ?_⟩⟩
      rw [rmd k hk]
      exact hq (hi1.symm.trans a) k hk
    · rw [rme k hk]
      exact Fe.2.2.2 z k hk
theorem iv_hc (pq : d + e = 1) (K : iv_K N ni cr hc se rm w q d e) (Fd : iv_F cr hc lo hi wa ic se lc rm s d e) (Fe : iv_F cr hc lo hi wa ic se lc rm t e d) (I : iv_m cr hc se rm e d M) (m0 : M 0 = 1) (h : hc d ≤ M 1) :
    iv_K N ni cr (upd hc d (M 1)) se rm w q d e ∧ iv_F cr (upd hc d (M 1)) lo hi wa ic se lc rm s d e ∧ iv_F cr (upd hc d (M 1)) lo hi wa ic se lc rm t e d ∧ upd hc d (M 1) d = M 1 ∧ (M 1 = cr e → ∀ k, k < 4 → M (3 + k) = se (e * 4 + k)) := by
  obtain ⟨⟨n1, n2, n3, n4⟩, ⟨k1, k2, k3, k4⟩, W1, W2⟩ := K
  obtain ⟨a, b⟩ := I.1 m0
  have ne : e ≠ d := by omega
  have he : upd hc d (M 1) e = hc e := pn_ne _ _ ne
  have hd : upd hc d (M 1) d = M 1 := pn_at _ _ _
  refine ⟨⟨⟨n1, n2, n3, by rw [he]; exact n4⟩, ⟨k1, k2, k3, by rw [hd]; exact a⟩, ?_, ?_⟩, ⟨Fd.1, Fd.2.1, fun z => ?_, Fd.2.2.2⟩, ⟨Fe.1, Fe.2.1, fun z => ?_, Fe.2.2.2⟩, hd, b⟩
  · refine iv_w_map ?_ W1
    intro m J
    refine ⟨J.1, fun h0 => ?_⟩
    obtain ⟨x, y⟩ := J.2 h0
    rw [hd]
    exact ⟨Int32.le_trans x h, y⟩
  · refine iv_w_map ?_ W2
    intro m J
    refine ⟨J.1, fun h0 => ?_⟩
    rw [he]
    exact J.2 h0
  · obtain ⟨x, y⟩ := Fd.2.2.1 z
    exact ⟨by rw [he]; exact x, y⟩
  · obtain ⟨x, y⟩ := Fe.2.2.1 z
    refine ⟨?_, y⟩
    rw [hd]
    rw [x] at h
    exact Int32.le_antisymm a h
theorem iv_start (pq : d + e = 1) (Fe : iv_F cr hc lo hi wa ic se lc rm t e d) : iv_A lo hi (pn_4 wa (d * 4) (pn_hi hi d)) (pn_4 ic (d * 4) (pn_in lo hi d)) d ∧ iv_F cr hc lo hi (pn_4 wa (d * 4) (pn_hi hi d)) (pn_4 ic (d * 4) (pn_in lo hi d)) se lc rm t e d := by
  refine ⟨?_, fun z => ⟨?_, (Fe.1 z).2⟩, Fe.2⟩
  · intro k hk
    rw [pn_4_k _ _ _ hk, pn_4_k _ _ _ hk]
    unfold pn_in pn_hi
    by_cases c : hi (d * 4 + k) < lo (d * 4 + k)
    · rw [if_pos c]; exact fun z => absurd rfl z
    · intro _
      exact ⟨Int32.not_lt.mp c, Int32.le_refl _⟩
  · intro k hk
    rw [pn_4_ne _ _ (by omega), pn_4_ne _ _ (by omega)]
    exact (Fe.1 z).1 k hk
theorem iv_cl {v l g : Int32} (h : l ≤ g) : l ≤ pn_cl v l g ∧ pn_cl v l g ≤ g := by
  unfold pn_cl
  by_cases c1 : l ≤ v
  · rw [if_pos c1]
    by_cases c2 : v ≤ g
    · rw [if_pos c2]; exact ⟨c1, c2⟩
    · rw [if_neg c2]; exact ⟨h, Int32.le_refl _⟩
  · rw [if_neg c1]; exact ⟨Int32.le_refl _, h⟩
theorem iv_ado (pq : d + e = 1) {c : Int32} (A : iv_A lo hi wa ic d) (Fe : iv_F cr hc lo hi wa ic se lc rm t e d) : iv_A lo hi (pn_4 wa (d * 4) (pn_aW c M lo hi wa d)) (pn_4 ic (d * 4) (pn_aI c M ic d)) d ∧ iv_F cr hc lo hi (pn_4 wa (d * 4) (pn_aW c M lo hi wa d)) (pn_4 ic (d * 4) (pn_aI c M ic d)) se lc rm t e d := by
  refine ⟨?_, fun z => ⟨?_, (Fe.1 z).2⟩, Fe.2⟩
  · intro k hk
    rw [pn_4_k _ _ _ hk, pn_4_k _ _ _ hk]
    unfold pn_aW pn_aI
    by_cases c1 : M (3 + k) = -1
    · rw [if_pos c1, if_pos c1]; exact A k hk
    · rw [if_neg c1, if_neg c1]
      by_cases c3 : c = 3
      · rw [if_pos c3, if_pos c3]
        intro z
        have h := A k hk z
        exact iv_cl (Int32.le_trans h.1 h.2)
      · rw [if_neg c3, if_neg c3]
        exact fun z => absurd rfl z
  · intro k hk
    rw [pn_4_ne _ _ (by omega), pn_4_ne _ _ (by omega)]
    exact (Fe.1 z).1 k hk
theorem iv_lc (pq : d + e = 1) (K : iv_K N ni cr hc se rm w q d e) (Fe : iv_F cr hc lo hi wa ic se lc rm t e d) (I : iv_m cr hc se rm e d M) (m0 : M 0 = 2) (m1 : M 1 = cr d) : iv_D cr hc se (pn_4 lc (d * 4) (fun k => se (d * 4 + k))) rm d e ∧ iv_F cr hc lo hi wa ic se (pn_4 lc (d * 4) (fun k => se (d * 4 + k))) rm t e d := by
  obtain ⟨a, b⟩ := I.2 m0
  refine ⟨⟨?_, fun k hk => ⟨?_, b m1 k hk⟩⟩, Fe.1, Fe.2.1, fun z => ?_, Fe.2.2.2⟩
  · rw [m1] at a
    exact Int32.le_antisymm K.1.2.2.2 a
  · rw [pn_4_k _ _ _ hk]
  · obtain ⟨x, y⟩ := Fe.2.2.1 z
    refine ⟨x, fun k hk => ?_⟩
    rw [pn_4_ne _ _ (by omega)]
    exact y k hk
theorem iv_rng (pq : d + e = 1) {i : Nat} {a b : Int32} (hi4 : i < 4) (Fe : iv_F cr hc lo hi wa ic se lc rm t e d) : iv_F cr hc (upd lo (d * 4 + i) a) (upd hi (d * 4 + i) b) wa ic se lc rm t e d := by
  have x : ∀ k, k < 4 → upd lo (d * 4 + i) a (e * 4 + k) = lo (e * 4 + k) := fun k hk => pn_ne _ _ (by omega)
  have y : ∀ k, k < 4 → upd hi (d * 4 + i) b (e * 4 + k) = hi (e * 4 + k) := fun k hk => pn_ne _ _ (by omega)
  refine ⟨fun z => ⟨fun k hk => ?_, fun k hk => ?_⟩, Fe.2.1, Fe.2.2.1, fun z k hk => ?_⟩
  · rw [x k hk, y k hk]; exact (Fe.1 z).1 k hk
  · rw [x k hk, y k hk]; exact (Fe.1 z).2 k hk
  · rw [x k hk, y k hk]; exact Fe.2.2.2 z k hk
end IW
section IA
variable {lo hi wa ic M J : Nat → Int32} {d k : Nat}
theorem iv_o2 {x j : Int32} (e : pn_o2 x j = 0) : x = 0 ∧ ¬ j = -2 := by
  unfold pn_o2 at e
  by_cases c : j = -2
  · rw [if_pos c] at e; exact absurd e (by decide)
  · rw [if_neg c] at e; exact ⟨e, c⟩
theorem iv_o3 {x j : Int32} (e : pn_o3 x j = 0) : x = 0 ∧ j < 0 := by
  unfold pn_o3 at e
  by_cases c : j < 0
  · rw [if_pos c] at e; exact ⟨e, c⟩
  · rw [if_neg c] at e; exact absurd e (by decide)
theorem iv_RN (h1 : pn_R J = 0) (h2 : pn_N J = 0) : ∀ k, k < 4 → J k < 0 ∧ ¬ J k = -2 := by
  unfold pn_R at h1
  unfold pn_N at h2
  obtain ⟨a3, b3⟩ := iv_o2 h1
  obtain ⟨a2, b2⟩ := iv_o2 a3
  obtain ⟨a1, b1⟩ := iv_o2 a2
  obtain ⟨_, b0⟩ := iv_o2 a1
  obtain ⟨c3, d3⟩ := iv_o3 h2
  obtain ⟨c2, d2⟩ := iv_o3 c3
  obtain ⟨c1, d1⟩ := iv_o3 c2
  obtain ⟨_, d0⟩ := iv_o3 c1
  intro k hk
  rcases pp_k4 hk with rfl | rfl | rfl | rfl
  · exact ⟨d0, b0⟩
  · exact ⟨d1, b1⟩
  · exact ⟨d2, b2⟩
  · exact ⟨d3, b3⟩
theorem iv_jud (hl : 0 ≤ lo (d * 4 + k)) (hh : 0 ≤ hi (d * 4 + k)) (h1 : pn_J lo hi wa ic d M k < 0) (h2 : ¬ pn_J lo hi wa ic d M k = -2) : M (3 + k) = -1 ∨ (lo (d * 4 + k) ≤ M (3 + k) ∧ M (3 + k) ≤ hi (d * 4 + k)) := by
  unfold pn_J at h1 h2
  by_cases c1 : M (3 + k) = -1
  · exact Or.inl c1
  · rw [if_neg c1] at h1 h2
    by_cases c2 : lo (d * 4 + k) ≤ hi (d * 4 + k)
    · rw [if_pos c2] at h1 h2
      by_cases c3 : lo (d * 4 + k) ≤ M (3 + k)
      · rw [if_pos c3] at h1 h2
        by_cases c4 : M (3 + k) ≤ hi (d * 4 + k)
        · exact Or.inr ⟨c3, c4⟩
        · rw [if_neg c4] at h1
          exact absurd h1 (Int32.not_lt.mpr hh)
      · rw [if_neg c3] at h1
        exact absurd h1 (Int32.not_lt.mpr hl)
    · rw [if_neg c2] at h2
      exact absurd rfl h2
theorem iv_gA {M se : Nat → Int32} {p : Nat} {y : Int32} (h : ¬ pn_gA M se p y = 0) : ¬ y = 0 := by
  intro z
  apply h
  have s : ∀ k, pn_fA M se p k 0 = 0 := fun k => ite_self 0
  unfold pn_gA
  rw [z, s, s, s, s]
end IA
end
section
theorem iv_K_c {ni cr hc se rm w q : Nat → Int32} {N d e s : Nat} (pq : d + e = 1) {c i x0 x1 x2 x3 dt : Int32} (hs : q d = nI s) (hs8 : s ≤ 8) (K : iv_K N ni cr hc se rm w q d e) (h1 : ¬ c = 1) (h2 : ¬ c = 2) : iv_K N ni cr hc se rm (pn_aw w q d c i dt x0 x1 x2 x3) (pn_aq q d) d e := iv_K_app pq hs hs8 K (iv_m_no h1 h2)
theorem iv_ni {ni cr hc se rm w q : Nat → Int32} {N d e : Nat} (pq : d + e = 1) (hN : N + 1 < 2 ^ 31) (K : iv_K N ni cr hc se rm w q d e) : iv_K (N + 1) (upd ni d (ni d + 1)) cr hc se rm w q d e := by
  obtain ⟨⟨n1, n2, n3, n4⟩, ⟨k1, k2, k3, k4⟩, W⟩ := K
  have ne : e ≠ d := by omega
  refine ⟨⟨n1, ?_, ?_, n4⟩, ⟨k1, ?_, ?_, k4⟩, W⟩
  · rw [pn_at]; exact (iv_succ n2 n3 hN).1
  · rw [pn_at]; exact (iv_up (Int32.le_trans n1 n2) n3 hN).1
  · rw [pn_ne _ _ ne]; exact k2
  · rw [pn_ne _ _ ne]; exact Int32.le_trans k3 (nI_le (Nat.le_succ N) hN)
theorem iv_hq {cr se R g : Nat → Int32} {d e : Nat} {i x : Int32} (pq : d + e = 1) (hq : i = cr e → ∀ k, k < 4 → R k = se (e * 4 + k)) : i = upd cr d x e → ∀ k, k < 4 → R k = pn_4 se (d * 4) g (e * 4 + k) := by
  rw [pn_ne _ _ (by omega)]
  intro z k hk
  rw [pn_4_ne _ _ (by omega)]
  exact hq z k hk
theorem iv_F_r {cr hc lo hi wa ic se lc rm rm2 : Nat → Int32} {d e : Nat} (I : iv_F cr hc lo hi wa ic se lc rm 6 d e) : iv_F cr hc lo hi wa ic se lc rm2 6 d e :=
  ⟨I.1, I.2.1, fun z => absurd z (by decide), fun z => absurd z (by decide)⟩
theorem iv_F_l {cr hc lo hi wa ic se lc lc2 rm : Nat → Int32} {d e : Nat} (I : iv_F cr hc lo hi wa ic se lc rm 6 d e) : iv_F cr hc lo hi wa ic se lc2 rm 6 d e :=
  ⟨I.1, I.2.1, fun z => absurd z (by decide), fun z => absurd z (by decide)⟩
theorem iv_D_r {cr hc se lc rm rm2 : Nat → Int32} {d e : Nat} (D : iv_D cr hc se lc rm d e) (h : ∀ k, k < 4 → rm2 (e * 4 + k) = rm (e * 4 + k)) : iv_D cr hc se lc rm2 d e :=
  ⟨D.1, fun k hk => ⟨(D.2 k hk).1, (h k hk).trans (D.2 k hk).2⟩⟩
def iv_I (N p e : Nat) (st ni cr hc lo hi wa ic se lc rm w q no : Nat → Int32) : Prop := pn_VO lo hi ic ∧ pn_VQ q ∧ pn_VN no ∧ iv_K N ni cr hc se rm w q p e ∧ ∃ s t : Nat, s ≤ 9 ∧ t ≤ 9 ∧ st p = nI s ∧ st e = nI t ∧ iv_F cr hc lo hi wa ic se lc rm s p e ∧ iv_F cr hc lo hi wa ic se lc rm t e p
theorem iv_mk {st ni cr hc lo hi wa ic se lc rm w q no : Nat → Int32} {N p e n t : Nat} (pq : p + e = 1) (VO : pn_VO lo hi ic) (VQ : pn_VQ q) (VN : pn_VN no) (K : iv_K N ni cr hc se rm w q p e) (hn : n ≤ 9) (Fp : iv_F cr hc lo hi wa ic se lc rm n p e) (et : st e = nI t) (ht : t ≤ 9) (Fe : iv_F cr hc lo hi wa ic se lc rm t e p) : iv_I N p e (upd st p (nI n)) ni cr hc lo hi wa ic se lc rm w q no :=
  ⟨VO, VQ, VN, K, n, t, hn, ht, pn_at _ _ _, (pn_ne _ _ (by omega)).trans et, Fp, Fe⟩
theorem iv_ms {st ni cr hc lo hi wa ic se lc rm w q no : Nat → Int32} {N p e n t : Nat} (VO : pn_VO lo hi ic) (VQ : pn_VQ q) (VN : pn_VN no) (K : iv_K N ni cr hc se rm w q p e) (hn : n ≤ 9) (Fp : iv_F cr hc lo hi wa ic se lc rm n p e) (es : st p = nI n) (et : st e = nI t) (ht : t ≤ 9) (Fe : iv_F cr hc lo hi wa ic se lc rm t e p) : iv_I N p e st ni cr hc lo hi wa ic se lc rm w q no :=
  ⟨VO, VQ, VN, K, n, t, hn, ht, es, et, Fp, Fe⟩
section EV
variable {C T F K rc : Int32} {st rs ti ni cr hc nk ms ei us dn sa fi lo hi wa ic se lc rm w q ih vd ro no : Nat → Int32} {P : Int32} {p : Nat} {post : St2 → Prop}
variable {M R : Nat → Int32} {N e s t : Nat}
theorem ev_open (HP : pn_P P p) (pq : p + e = 1) (hN : N + 1 < 2 ^ 31) (VO : pn_VO lo hi ic) (VQ : pn_VQ q) (VN : pn_VN no) (KK : iv_K N ni cr hc se rm w q p e) (es : st p = nI s) (hs9 : s ≤ 9) (Fp : iv_F cr hc lo hi wa ic se lc rm s p e) (et : st e = nI t) (ht9 : t ≤ 9) (Fe : iv_F cr hc lo hi wa ic se lc rm t e p) (H : (∀ (C T F K rc : Int32) (st rs ti ni cr hc nk ms ei us dn sa fi lo hi wa ic se lc rm w q ih vd ro no : Nat → Int32), iv_I (N + 1) p e st ni cr hc lo hi wa ic se lc rm w q no → post (C, T, F, K, rc, st, rs, ti, ni, cr, hc, nk, ms, ei, us, dn, sa, fi, lo, hi, wa, ic, se, lc, rm, w, q, ih, vd, ro, no))) : wpX_onOpen post (C, T, F, K, rc, st, rs, ti, ni, cr, hc, nk, ms, ei, us, dn, sa, fi, lo, hi, wa, ic, se, lc, rm, w, q, ih, vd, ro, no) P := by
  have hp := pp_lt HP
  have pv := pp_v HP
  obtain ⟨z, hz8, ez⟩ := VQ p hp
  obtain ⟨z2, hz82, ez2⟩ := (pn_VQ_a VQ hp) p hp
  have KN := iv_K_N (Nat.le_succ N) hN KK
  unfold wpX_onOpen
  refine ⟨pv, ?_⟩
  rw [pp_n HP]
  have hcase : s = 0 ∨ s = 1 ∨ s = 2 ∨ s = 3 ∨ s = 4 ∨ s = 5 ∨ s = 6 ∨ s = 7 ∨ s = 8 ∨ s = 9 := by omega
  rcases hcase with rfl | rfl | rfl | rfl | rfl | rfl | rfl | rfl | rfl | rfl
  · have e0 : st p = 0 := es
    rw [e0]
    refine (nm_e (br_f (by decide) (br_f (by decide) (br_t (by decide) ⟨pv, ⟨pv, (nm_e ⟨pv, (nm_e ?_)⟩)⟩⟩))))
    refine H _ _ _ _ _ _ _ _ _ _ _ _ _ _ _ _ _ _ _ _ _ _ _ _ _ _ _ _ _ _ _ ?_
    exact iv_mk (n := 1) pq VO VQ VN KN (by decide) (iv_F_0 (by decide)) et ht9 Fe
  · have e0 : st p = 1 := es
    rw [e0]
    refine (nm_e (br_f (by decide) (br_f (by decide) (br_f (by decide) (br_t (by decide) ?_)))))
    refine H _ _ _ _ _ _ _ _ _ _ _ _ _ _ _ _ _ _ _ _ _ _ _ _ _ _ _ _ _ _ _ ?_
    exact iv_ms (n := 1) VO VQ VN KN (by decide) (iv_F_0 (by decide)) es et ht9 Fe
  · have e0 : st p = 2 := es
    rw [e0]
    refine (nm_e (br_f (by decide) (br_f (by decide) (br_f (by decide) (br_f (by decide) (br_t (by decide) (xa_breq HP ez hz8 ?_)))))))
    refine H _ _ _ _ _ _ _ _ _ _ _ _ _ _ _ _ _ _ _ _ _ _ _ _ _ _ _ _ _ _ _ ?_
    have S0 := iv_start (d := p) pq Fe
    have S1 := iv_scr (d := p) pq ez hz8 hN KK S0.1 S0.2
    exact iv_mk (n := 6) pq (pn_VO_in VO) (pn_VQ_a VQ hp) VN S1.1 (by decide) S1.2.1 et ht9 S1.2.2
  · have e0 : st p = 3 := es
    rw [e0]
    refine (nm_e (br_f (by decide) (br_f (by decide) (br_f (by decide) (br_f (by decide) (br_f (by decide) (br_t (by decide) ?_)))))))
    refine H _ _ _ _ _ _ _ _ _ _ _ _ _ _ _ _ _ _ _ _ _ _ _ _ _ _ _ _ _ _ _ ?_
    exact iv_ms (n := 3) VO VQ VN KN (by decide) (iv_F_0 (by decide)) es et ht9 Fe
  · have e0 : st p = 4 := es
    rw [e0]
    refine (nm_e (br_f (by decide) (br_f (by decide) (br_f (by decide) (br_f (by decide) (br_f (by decide) (br_f (by decide) (br_t (by decide) ⟨pv, (nm_e ?_)⟩))))))))
    refine H _ _ _ _ _ _ _ _ _ _ _ _ _ _ _ _ _ _ _ _ _ _ _ _ _ _ _ _ _ _ _ ?_
    exact iv_mk (n := 5) pq VO VQ VN KN (by decide) (iv_F_le Fp (by decide) (by decide) (by decide) (by decide)) et ht9 Fe
  · have e0 : st p = 5 := es
    rw [e0]
    refine (nm_e (br_f (by decide) (br_t (by decide) ?_)))
    refine H _ _ _ _ _ _ _ _ _ _ _ _ _ _ _ _ _ _ _ _ _ _ _ _ _ _ _ _ _ _ _ ?_
    exact iv_ms (n := 5) VO VQ VN KN (by decide) Fp es et ht9 Fe
  · have e0 : st p = 6 := es
    rw [e0]
    refine (nm_e (br_f (by decide) (br_t (by decide) ?_)))
    refine H _ _ _ _ _ _ _ _ _ _ _ _ _ _ _ _ _ _ _ _ _ _ _ _ _ _ _ _ _ _ _ ?_
    exact iv_ms (n := 6) VO VQ VN KN (by decide) Fp es et ht9 Fe
  · have e0 : st p = 7 := es
    rw [e0]
    refine (nm_e (br_f (by decide) (br_t (by decide) ?_)))
    refine H _ _ _ _ _ _ _ _ _ _ _ _ _ _ _ _ _ _ _ _ _ _ _ _ _ _ _ _ _ _ _ ?_
    exact iv_ms (n := 7) VO VQ VN KN (by decide) Fp es et ht9 Fe
  · have e0 : st p = 8 := es
    rw [e0]
    refine (nm_e (br_f (by decide) (br_t (by decide) ?_)))
    refine H _ _ _ _ _ _ _ _ _ _ _ _ _ _ _ _ _ _ _ _ _ _ _ _ _ _ _ _ _ _ _ ?_
    exact iv_ms (n := 8) VO VQ VN KN (by decide) Fp es et ht9 Fe
  · have e0 : st p = 9 := es
    rw [e0]
    refine (nm_e (br_f (by decide) (br_t (by decide) ?_)))
    refine H _ _ _ _ _ _ _ _ _ _ _ _ _ _ _ _ _ _ _ _ _ _ _ _ _ _ _ _ _ _ _ ?_
    exact iv_ms (n := 9) VO VQ VN KN (by decide) Fp es et ht9 Fe
theorem ev_close (HP : pn_P P p) (pq : p + e = 1) (hN : N + 1 < 2 ^ 31) (VO : pn_VO lo hi ic) (VQ : pn_VQ q) (VN : pn_VN no) (KK : iv_K N ni cr hc se rm w q p e) (es : st p = nI s) (hs9 : s ≤ 9) (Fp : iv_F cr hc lo hi wa ic se lc rm s p e) (et : st e = nI t) (ht9 : t ≤ 9) (Fe : iv_F cr hc lo hi wa ic se lc rm t e p) (H : (∀ (C T F K rc : Int32) (st rs ti ni cr hc nk ms ei us dn sa fi lo hi wa ic se lc rm w q ih vd ro no : Nat → Int32), iv_I (N + 1) p e st ni cr hc lo hi wa ic se lc rm w q no → post (C, T, F, K, rc, st, rs, ti, ni, cr, hc, nk, ms, ei, us, dn, sa, fi, lo, hi, wa, ic, se, lc, rm, w, q, ih, vd, ro, no))) : wpX_onClose post (C, T, F, K, rc, st, rs, ti, ni, cr, hc, nk, ms, ei, us, dn, sa, fi, lo, hi, wa, ic, se, lc, rm, w, q, ih, vd, ro, no) P := by
  have hp := pp_lt HP
  have pv := pp_v HP
  obtain ⟨z, hz8, ez⟩ := VQ p hp
  obtain ⟨z2, hz82, ez2⟩ := (pn_VQ_a VQ hp) p hp
  have KN := iv_K_N (Nat.le_succ N) hN KK
  unfold wpX_onClose wX_onClose_96
  refine ⟨pv, ?_⟩
  rw [pp_n HP]
  have hcase : s = 0 ∨ s = 1 ∨ s = 2 ∨ s = 3 ∨ s = 4 ∨ s = 5 ∨ s = 6 ∨ s = 7 ∨ s = 8 ∨ s = 9 := by omega
  rcases hcase with rfl | rfl | rfl | rfl | rfl | rfl | rfl | rfl | rfl | rfl
  · have e0 : st p = 0 := es
    rw [e0]
    refine (nm_e (br_t (by decide) ?_))
    refine H _ _ _ _ _ _ _ _ _ _ _ _ _ _ _ _ _ _ _ _ _ _ _ _ _ _ _ _ _ _ _ ?_
    exact iv_ms (n := 0) VO VQ VN KN (by decide) (iv_F_0 (by decide)) es et ht9 Fe
  · have e0 : st p = 1 := es
    rw [e0]
    refine (nm_e (br_f (by decide) (br_f (by decide) (br_t (by decide) ⟨pv, ⟨pv, (nm_e ⟨pv, (nm_e ?_)⟩)⟩⟩))))
    refine H _ _ _ _ _ _ _ _ _ _ _ _ _ _ _ _ _ _ _ _ _ _ _ _ _ _ _ _ _ _ _ ?_
    exact iv_mk (n := 0) pq VO VQ VN KN (by decide) (iv_F_0 (by decide)) et ht9 Fe
  · have e0 : st p = 2 := es
    rw [e0]
    refine (nm_e (br_f (by decide) (br_f (by decide) (br_f (by decide) (br_t (by decide) ?_)))))
    refine H _ _ _ _ _ _ _ _ _ _ _ _ _ _ _ _ _ _ _ _ _ _ _ _ _ _ _ _ _ _ _ ?_
    exact iv_ms (n := 2) VO VQ VN KN (by decide) (iv_F_0 (by decide)) es et ht9 Fe
  · have e0 : st p = 3 := es
    rw [e0]
    refine (nm_e (br_f (by decide) (br_f (by decide) (br_f (by decide) (br_f (by decide) (br_t (by decide) ⟨pv, (nm_e ?_)⟩))))))
    refine H _ _ _ _ _ _ _ _ _ _ _ _ _ _ _ _ _ _ _ _ _ _ _ _ _ _ _ _ _ _ _ ?_
    exact iv_mk (n := 2) pq VO VQ VN KN (by decide) (iv_F_0 (by decide)) et ht9 Fe
  · have e0 : st p = 4 := es
    rw [e0]
    refine (nm_e (br_f (by decide) (br_f (by decide) (br_f (by decide) (br_f (by decide) (br_f (by decide) (br_t (by decide) ?_)))))))
    refine H _ _ _ _ _ _ _ _ _ _ _ _ _ _ _ _ _ _ _ _ _ _ _ _ _ _ _ _ _ _ _ ?_
    exact iv_ms (n := 4) VO VQ VN KN (by decide) Fp es et ht9 Fe
  · have e0 : st p = 5 := es
    rw [e0]
    refine (nm_e (br_f (by decide) (br_f (by decide) (br_f (by decide) (br_f (by decide) (br_f (by decide) (br_f (by decide) (br_t (by decide) ⟨pv, (nm_e ?_)⟩))))))))
    refine H _ _ _ _ _ _ _ _ _ _ _ _ _ _ _ _ _ _ _ _ _ _ _ _ _ _ _ _ _ _ _ ?_
    exact iv_mk (n := 4) pq VO VQ VN KN (by decide) (iv_F_le Fp (by decide) (by decide) (by decide) (by decide)) et ht9 Fe
  · have e0 : st p = 6 := es
    rw [e0]
    refine (nm_e (br_f (by decide) (br_f (by decide) (br_f (by decide) (br_f (by decide) (br_f (by decide) (br_f (by decide) (br_f (by decide) (br_t (by decide) (xa_bterm HP VN ez hz8 ?_))))))))))
    refine H _ _ _ _ _ _ _ _ _ _ _ _ _ _ _ _ _ _ _ _ _ _ _ _ _ _ _ _ _ _ _ ?_
    exact iv_mk (n := 4) pq VO (pn_VQ_a VQ hp) VN (iv_K_c pq ez hz8 (iv_ni pq hN KK) (by decide) (by decide)) (by decide) (iv_F_le Fp (by decide) (by decide) (by decide) (by decide)) et ht9 Fe
  · have e0 : st p = 7 := es
    rw [e0]
    refine (nm_e (br_f (by decide) (br_f (by decide) (br_f (by decide) (br_f (by decide) (br_f (by decide) (br_f (by decide) (br_f (by decide) (br_f (by decide) (br_t (by decide) (xa_bterm HP VN ez hz8 ?_)))))))))))
    refine H _ _ _ _ _ _ _ _ _ _ _ _ _ _ _ _ _ _ _ _ _ _ _ _ _ _ _ _ _ _ _ ?_
    exact iv_mk (n := 4) pq VO (pn_VQ_a VQ hp) VN (iv_K_c pq ez hz8 (iv_ni pq hN KK) (by decide) (by decide)) (by decide) (iv_F_le Fp (by decide) (by decide) (by decide) (by decide)) et ht9 Fe
  · have e0 : st p = 8 := es
    rw [e0]
    refine (nm_e (br_f (by decide) (br_f (by decide) (br_f (by decide) (br_f (by decide) (br_f (by decide) (br_f (by decide) (br_f (by decide) (br_f (by decide) (br_f (by decide) (br_t (by decide) (xa_bterm HP VN ez hz8 ?_))))))))))))
    refine H _ _ _ _ _ _ _ _ _ _ _ _ _ _ _ _ _ _ _ _ _ _ _ _ _ _ _ _ _ _ _ ?_
    exact iv_mk (n := 4) pq VO (pn_VQ_a VQ hp) VN (iv_K_c pq ez hz8 (iv_ni pq hN KK) (by decide) (by decide)) (by decide) (iv_F_le Fp (by decide) (by decide) (by decide) (by decide)) et ht9 Fe
  · have e0 : st p = 9 := es
    rw [e0]
    refine (nm_e (br_f (by decide) (br_f (by decide) (br_f (by decide) (br_f (by decide) (br_f (by decide) (br_f (by decide) (br_f (by decide) (br_f (by decide) (br_f (by decide) (br_f (by decide) (br_t (by decide) ⟨pv, ⟨pv, (nm_e (xa_bterm HP VN ez hz8 ?_))⟩⟩))))))))))))
    refine H _ _ _ _ _ _ _ _ _ _ _ _ _ _ _ _ _ _ _ _ _ _ _ _ _ _ _ _ _ _ _ ?_
    exact iv_mk (n := 4) pq VO (pn_VQ_a VQ hp) VN (iv_K_c pq ez hz8 (iv_ni pq hN KK) (by decide) (by decide)) (by decide) (iv_F_le Fp (by decide) (by decide) (by decide) (by decide)) et ht9 Fe
theorem ev_good (HP : pn_P P p) (pq : p + e = 1) (hN : N + 1 < 2 ^ 31) (VO : pn_VO lo hi ic) (VQ : pn_VQ q) (VN : pn_VN no) (KK : iv_K N ni cr hc se rm w q p e) (es : st p = nI s) (hs9 : s ≤ 9) (Fp : iv_F cr hc lo hi wa ic se lc rm s p e) (et : st e = nI t) (ht9 : t ≤ 9) (Fe : iv_F cr hc lo hi wa ic se lc rm t e p) (hM : ∀ f, f < 7 → ih f = M f) (hs2 : 2 ≤ s) (hcp : hc p = M 1) (hA : s = 3 → iv_A lo hi wa ic p) (hro : ∀ k, k < 4 → ro k = (fun j => M (3 + j)) k) (hq : M 1 = cr e → ∀ k, k < 4 → (fun j => M (3 + j)) k = se (e * 4 + k)) (hacc : ∀ k, k < 4 → (fun j => M (3 + j)) k = -1 ∨ (lo (p * 4 + k) ≤ (fun j => M (3 + j)) k ∧ (fun j => M (3 + j)) k ≤ hi (p * 4 + k))) (H : (∀ (C T F K rc : Int32) (st rs ti ni cr hc nk ms ei us dn sa fi lo hi wa ic se lc rm w q ih vd ro no : Nat → Int32), iv_I (N + 1) p e st ni cr hc lo hi wa ic se lc rm w q no → post (C, T, F, K, rc, st, rs, ti, ni, cr, hc, nk, ms, ei, us, dn, sa, fi, lo, hi, wa, ic, se, lc, rm, w, q, ih, vd, ro, no))) : wpX_onGoodRequest post (C, T, F, K, rc, st, rs, ti, ni, cr, hc, nk, ms, ei, us, dn, sa, fi, lo, hi, wa, ic, se, lc, rm, w, q, ih, vd, ro, no) P := by
  have hp := pp_lt HP
  have pv := pp_v HP
  obtain ⟨z, hz8, ez⟩ := VQ p hp
  obtain ⟨z2, hz82, ez2⟩ := (pn_VQ_a VQ hp) p hp
  have KN := iv_K_N (Nat.le_succ N) hN KK
  have m1 := hM 1 (by decide)
  unfold wpX_onGoodRequest wX_onGoodRequest_91
  refine ⟨pv, ?_⟩
  rw [pp_n HP]
  have hcase : s = 2 ∨ s = 3 ∨ s = 4 ∨ s = 5 ∨ s = 6 ∨ s = 7 ∨ s = 8 ∨ s = 9 := by omega
  rcases hcase with rfl | rfl | rfl | rfl | rfl | rfl | rfl | rfl
  · have e0 : st p = 2 := es
    rw [e0]
    refine (nm_e (br_f (by decide) (br_f (by decide) (br_t (by decide) (xa_sta HP VN ez hz8 m1 ?_)))))
    refine H _ _ _ _ _ _ _ _ _ _ _ _ _ _ _ _ _ _ _ _ _ _ _ _ _ _ _ _ _ _ _ ?_
    exact iv_ms (n := 2) VO (pn_VQ_a VQ hp) VN (iv_K_c pq ez hz8 KN (by decide) (by decide)) (by decide) (iv_F_0 (by decide)) es et ht9 Fe
  · have e0 : st p = 3 := es
    rw [e0]
    refine (nm_e (br_f (by decide) (br_f (by decide) (br_f (by decide) (br_t (by decide) ⟨pv, (nm_e (xa_scr HP ez hz8 (xa_sca HP ez2 hz82 m1 hro ⟨pv, (nm_e ?_)⟩)))⟩)))))
    refine H _ _ _ _ _ _ _ _ _ _ _ _ _ _ _ _ _ _ _ _ _ _ _ _ _ _ _ _ _ _ _ ?_
    have S1 := iv_scr (d := p) pq ez hz8 hN KK (hA rfl) Fe
    have S2 := iv_sca (d := p) pq ez2 hz82 hcp (iv_hq pq hq) hacc S1.1 S1.2.2
    exact iv_mk (n := 8) pq VO (pn_VQ_a (pn_VQ_a VQ hp) hp) VN S2.1 (by decide) (iv_F_8 (iv_F_r S1.2.1) S2.2.1) et ht9 S2.2.2.1
  · have e0 : st p = 4 := es
    rw [e0]
    refine (nm_e (br_f (by decide) (br_f (by decide) (br_f (by decide) (br_f (by decide) (br_t (by decide) ?_))))))
    refine H _ _ _ _ _ _ _ _ _ _ _ _ _ _ _ _ _ _ _ _ _ _ _ _ _ _ _ _ _ _ _ ?_
    exact iv_ms (n := 4) VO VQ VN KN (by decide) Fp es et ht9 Fe
  · have e0 : st p = 5 := es
    rw [e0]
    refine (nm_e (br_f (by decide) (br_f (by decide) (br_f (by decide) (br_f (by decide) (br_f (by decide) (br_t (by decide) ?_)))))))
    refine H _ _ _ _ _ _ _ _ _ _ _ _ _ _ _ _ _ _ _ _ _ _ _ _ _ _ _ _ _ _ _ ?_
    exact iv_ms (n := 5) VO VQ VN KN (by decide) Fp es et ht9 Fe
  · have e0 : st p = 6 := es
    rw [e0]
    refine (nm_e (br_f (by decide) (br_f (by decide) (br_f (by decide) (br_f (by decide) (br_f (by decide) (br_f (by decide) (br_t (by decide) (xa_sca HP ez hz8 m1 hro ⟨pv, (nm_e ?_)⟩)))))))))
    refine H _ _ _ _ _ _ _ _ _ _ _ _ _ _ _ _ _ _ _ _ _ _ _ _ _ _ _ _ _ _ _ ?_
    have S2 := iv_sca (d := p) pq ez hz8 hcp hq hacc KN Fe
    exact iv_mk (n := 8) pq VO (pn_VQ_a VQ hp) VN S2.1 (by decide) (iv_F_8 (iv_F_r Fp) S2.2.1) et ht9 S2.2.2.1
  · have e0 : st p = 7 := es
    rw [e0]
    refine (nm_e (br_f (by decide) (br_f (by decide) (br_f (by decide) (br_f (by decide) (br_f (by decide) (br_f (by decide) (br_f (by decide) (br_t (by decide) (xa_sca HP ez hz8 m1 hro (xa_tlu HP ⟨pv, (nm_e ?_)⟩)))))))))))
    refine H _ _ _ _ _ _ _ _ _ _ _ _ _ _ _ _ _ _ _ _ _ _ _ _ _ _ _ _ _ _ _ ?_
    have S2 := iv_sca (d := p) pq ez hz8 hcp hq hacc KN Fe
    exact iv_mk (n := 9) pq VO (pn_VQ_a VQ hp) VN S2.1 (by decide) (iv_F_9 (iv_F_r (iv_F_le Fp (by decide) (by decide) (by decide) (by decide))) (iv_D_r (Fp.2.2.1 (by decide)) S2.2.2.2) S2.2.1) et ht9 S2.2.2.1
  · have e0 : st p = 8 := es
    rw [e0]
    refine (nm_e (br_f (by decide) (br_f (by decide) (br_f (by decide) (br_f (by decide) (br_f (by decide) (br_f (by decide) (br_f (by decide) (br_f (by decide) (br_t (by decide) (xa_sca HP ez hz8 m1 hro ⟨pv, (nm_e ?_)⟩)))))))))))
    refine H _ _ _ _ _ _ _ _ _ _ _ _ _ _ _ _ _ _ _ _ _ _ _ _ _ _ _ _ _ _ _ ?_
    have S2 := iv_sca (d := p) pq ez hz8 hcp hq hacc KN Fe
    exact iv_mk (n := 8) pq VO (pn_VQ_a VQ hp) VN S2.1 (by decide) (iv_F_8 (iv_F_r (iv_F_le Fp (by decide) (by decide) (by decide) (by decide))) S2.2.1) et ht9 S2.2.2.1
  · have e0 : st p = 9 := es
    rw [e0]
    refine (nm_e (br_f (by decide) (br_f (by decide) (br_f (by decide) (br_f (by decide) (br_f (by decide) (br_f (by decide) (br_f (by decide) (br_f (by decide) (br_f (by decide) (br_t (by decide) ⟨pv, ⟨pv, (nm_e (xa_scr HP ez hz8 (xa_sca HP ez2 hz82 m1 hro ⟨pv, (nm_e ?_)⟩)))⟩⟩)))))))))))
    refine H _ _ _ _ _ _ _ _ _ _ _ _ _ _ _ _ _ _ _ _ _ _ _ _ _ _ _ _ _ _ _ ?_
    have S1 := iv_scr (d := p) pq ez hz8 hN KK (Fp.1 (by decide)).1 Fe
    have S2 := iv_sca (d := p) pq ez2 hz82 hcp (iv_hq pq hq) hacc S1.1 S1.2.2
    exact iv_mk (n := 8) pq VO (pn_VQ_a (pn_VQ_a VQ hp) hp) VN S2.1 (by decide) (iv_F_8 (iv_F_r S1.2.1) S2.2.1) et ht9 S2.2.2.1
theorem ev_bad (HP : pn_P P p) (pq : p + e = 1) (hN : N + 1 < 2 ^ 31) (VO : pn_VO lo hi ic) (VQ : pn_VQ q) (VN : pn_VN no) (KK : iv_K N ni cr hc se rm w q p e) (es : st p = nI s) (hs9 : s ≤ 9) (Fp : iv_F cr hc lo hi wa ic se lc rm s p e) (et : st e = nI t) (ht9 : t ≤ 9) (Fe : iv_F cr hc lo hi wa ic se lc rm t e p) (hM : ∀ f, f < 7 → ih f = M f) (hs2 : 2 ≤ s) (hcp : hc p = M 1) (hA : s = 3 → iv_A lo hi wa ic p) (hro : ∀ k, k < 4 → ro k = R k) (hrc1 : ¬ rc = 1) (hrc2 : ¬ rc = 2) (H : (∀ (C T F K rc : Int32) (st rs ti ni cr hc nk ms ei us dn sa fi lo hi wa ic se lc rm w q ih vd ro no : Nat → Int32), iv_I (N + 1) p e st ni cr hc lo hi wa ic se lc rm w q no → post (C, T, F, K, rc, st, rs, ti, ni, cr, hc, nk, ms, ei, us, dn, sa, fi, lo, hi, wa, ic, se, lc, rm, w, q, ih, vd, ro, no))) : wpX_onBadRequest post (C, T, F, K, rc, st, rs, ti, ni, cr, hc, nk, ms, ei, us, dn, sa, fi, lo, hi, wa, ic, se, lc, rm, w, q, ih, vd, ro, no) P := by
  have hp := pp_lt HP
  have pv := pp_v HP
  obtain ⟨z, hz8, ez⟩ := VQ p hp
  obtain ⟨z2, hz82, ez2⟩ := (pn_VQ_a VQ hp) p hp
  have KN := iv_K_N (Nat.le_succ N) hN KK
  have m1 := hM 1 (by decide)
  unfold wpX_onBadRequest wX_onBadRequest_91
  refine ⟨pv, ?_⟩
  rw [pp_n HP]
  have hcase : s = 2 ∨ s = 3 ∨ s = 4 ∨ s = 5 ∨ s = 6 ∨ s = 7 ∨ s = 8 ∨ s = 9 := by omega
  rcases hcase with rfl | rfl | rfl | rfl | rfl | rfl | rfl | rfl
  · have e0 : st p = 2 := es
    rw [e0]
    refine (nm_e (br_f (by decide) (br_f (by decide) (br_t (by decide) (xa_sta HP VN ez hz8 m1 ?_)))))
    refine H _ _ _ _ _ _ _ _ _ _ _ _ _ _ _ _ _ _ _ _ _ _ _ _ _ _ _ _ _ _ _ ?_
    exact iv_ms (n := 2) VO (pn_VQ_a VQ hp) VN (iv_K_c pq ez hz8 KN (by decide) (by decide)) (by decide) (iv_F_0 (by decide)) es et ht9 Fe
  · have e0 : st p = 3 := es
    rw [e0]
    refine (nm_e (br_f (by decide) (br_f (by decide) (br_f (by decide) (br_t (by decide) ⟨pv, (nm_e (xa_scr HP ez hz8 (xa_scn HP ez2 hz82 m1 hro ⟨pv, (nm_e ?_)⟩)))⟩)))))
    refine H _ _ _ _ _ _ _ _ _ _ _ _ _ _ _ _ _ _ _ _ _ _ _ _ _ _ _ _ _ _ _ ?_
    have S1 := iv_scr (d := p) pq ez hz8 hN KK (hA rfl) Fe
    exact iv_mk (n := 6) pq VO (pn_VQ_a (pn_VQ_a VQ hp) hp) VN (iv_K_c pq ez2 hz82 S1.1 hrc1 hrc2) (by decide) S1.2.1 et ht9 S1.2.2
  · have e0 : st p = 4 := es
    rw [e0]
    refine (nm_e (br_f (by decide) (br_f (by decide) (br_f (by decide) (br_f (by decide) (br_t (by decide) ?_))))))
    refine H _ _ _ _ _ _ _ _ _ _ _ _ _ _ _ _ _ _ _ _ _ _ _ _ _ _ _ _ _ _ _ ?_
    exact iv_ms (n := 4) VO VQ VN KN (by decide) Fp es et ht9 Fe
  · have e0 : st p = 5 := es
    rw [e0]
    refine (nm_e (br_f (by decide) (br_f (by decide) (br_f (by decide) (br_f (by decide) (br_f (by decide) (br_t (by decide) ?_)))))))
    refine H _ _ _ _ _ _ _ _ _ _ _ _ _ _ _ _ _ _ _ _ _ _ _ _ _ _ _ _ _ _ _ ?_
    exact iv_ms (n := 5) VO VQ VN KN (by decide) Fp es et ht9 Fe
  · have e0 : st p = 6 := es
    rw [e0]
    refine (nm_e (br_f (by decide) (br_f (by decide) (br_f (by decide) (br_f (by decide) (br_f (by decide) (br_f (by decide) (br_t (by decide) (xa_scn HP ez hz8 m1 hro ⟨pv, (nm_e ?_)⟩)))))))))
    refine H _ _ _ _ _ _ _ _ _ _ _ _ _ _ _ _ _ _ _ _ _ _ _ _ _ _ _ _ _ _ _ ?_
    exact iv_mk (n := 6) pq VO (pn_VQ_a VQ hp) VN (iv_K_c pq ez hz8 KN hrc1 hrc2) (by decide) Fp et ht9 Fe
  · have e0 : st p = 7 := es
    rw [e0]
    refine (nm_e (br_f (by decide) (br_f (by decide) (br_f (by decide) (br_f (by decide) (br_f (by decide) (br_f (by decide) (br_f (by decide) (br_t (by decide) (xa_scn HP ez hz8 m1 hro ?_))))))))))
    refine H _ _ _ _ _ _ _ _ _ _ _ _ _ _ _ _ _ _ _ _ _ _ _ _ _ _ _ _ _ _ _ ?_
    exact iv_ms (n := 7) VO (pn_VQ_a VQ hp) VN (iv_K_c pq ez hz8 KN hrc1 hrc2) (by decide) Fp es et ht9 Fe
  · have e0 : st p = 8 := es
    rw [e0]
    refine (nm_e (br_f (by decide) (br_f (by decide) (br_f (by decide) (br_f (by decide) (br_f (by decide) (br_f (by decide) (br_f (by decide) (br_f (by decide) (br_t (by decide) (xa_scn HP ez hz8 m1 hro ⟨pv, (nm_e ?_)⟩)))))))))))
    refine H _ _ _ _ _ _ _ _ _ _ _ _ _ _ _ _ _ _ _ _ _ _ _ _ _ _ _ _ _ _ _ ?_
    exact iv_mk (n := 6) pq VO (pn_VQ_a VQ hp) VN (iv_K_c pq ez hz8 KN hrc1 hrc2) (by decide) (iv_F_le Fp (by decide) (by decide) (by decide) (by decide)) et ht9 Fe
  · have e0 : st p = 9 := es
    rw [e0]
    refine (nm_e (br_f (by decide) (br_f (by decide) (br_f (by decide) (br_f (by decide) (br_f (by decide) (br_f (by decide) (br_f (by decide) (br_f (by decide) (br_f (by decide) (br_t (by decide) ⟨pv, ⟨pv, (nm_e (xa_scr HP ez hz8 (xa_scn HP ez2 hz82 m1 hro ⟨pv, (nm_e ?_)⟩)))⟩⟩)))))))))))
    refine H _ _ _ _ _ _ _ _ _ _ _ _ _ _ _ _ _ _ _ _ _ _ _ _ _ _ _ _ _ _ _ ?_
    have S1 := iv_scr (d := p) pq ez hz8 hN KK (Fp.1 (by decide)).1 Fe
    exact iv_mk (n := 6) pq VO (pn_VQ_a (pn_VQ_a VQ hp) hp) VN (iv_K_c pq ez2 hz82 S1.1 hrc1 hrc2) (by decide) S1.2.1 et ht9 S1.2.2
theorem ev_ack (HP : pn_P P p) (pq : p + e = 1) (hN : N + 1 < 2 ^ 31) (VO : pn_VO lo hi ic) (VQ : pn_VQ q) (VN : pn_VN no) (KK : iv_K N ni cr hc se rm w q p e) (es : st p = nI s) (hs9 : s ≤ 9) (Fp : iv_F cr hc lo hi wa ic se lc rm s p e) (et : st e = nI t) (ht9 : t ≤ 9) (Fe : iv_F cr hc lo hi wa ic se lc rm t e p) (hM : ∀ f, f < 7 → ih f = M f) (hs2 : 2 ≤ s) (hD : s = 6 ∨ s = 8 → iv_D cr hc se lc rm p e) (H : (∀ (C T F K rc : Int32) (st rs ti ni cr hc nk ms ei us dn sa fi lo hi wa ic se lc rm w q ih vd ro no : Nat → Int32), iv_I (N + 1) p e st ni cr hc lo hi wa ic se lc rm w q no → post (C, T, F, K, rc, st, rs, ti, ni, cr, hc, nk, ms, ei, us, dn, sa, fi, lo, hi, wa, ic, se, lc, rm, w, q, ih, vd, ro, no))) : wpX_onAck post (C, T, F, K, rc, st, rs, ti, ni, cr, hc, nk, ms, ei, us, dn, sa, fi, lo, hi, wa, ic, se, lc, rm, w, q, ih, vd, ro, no) P := by
  have hp := pp_lt HP
  have pv := pp_v HP
  obtain ⟨z, hz8, ez⟩ := VQ p hp
  obtain ⟨z2, hz82, ez2⟩ := (pn_VQ_a VQ hp) p hp
  have KN := iv_K_N (Nat.le_succ N) hN KK
  have m1 := hM 1 (by decide)
  unfold wpX_onAck wX_onAck_52
  refine ⟨pv, ?_⟩
  rw [pp_n HP]
  have hcase : s = 2 ∨ s = 3 ∨ s = 4 ∨ s = 5 ∨ s = 6 ∨ s = 7 ∨ s = 8 ∨ s = 9 := by omega
  rcases hcase with rfl | rfl | rfl | rfl | rfl | rfl | rfl | rfl
  · have e0 : st p = 2 := es
    rw [e0]
    refine (nm_e (br_f (by decide) (br_f (by decide) (br_t (by decide) (xa_sta HP VN ez hz8 m1 ?_)))))
    refine H _ _ _ _ _ _ _ _ _ _ _ _ _ _ _ _ _ _ _ _ _ _ _ _ _ _ _ _ _ _ _ ?_
    exact iv_ms (n := 2) VO (pn_VQ_a VQ hp) VN (iv_K_c pq ez hz8 KN (by decide) (by decide)) (by decide) (iv_F_0 (by decide)) es et ht9 Fe
  · have e0 : st p = 3 := es
    rw [e0]
    refine (nm_e (br_f (by decide) (br_f (by decide) (br_f (by decide) (br_t (by decide) (xa_sta HP VN ez hz8 m1 ?_))))))
    refine H _ _ _ _ _ _ _ _ _ _ _ _ _ _ _ _ _ _ _ _ _ _ _ _ _ _ _ _ _ _ _ ?_
    exact iv_ms (n := 3) VO (pn_VQ_a VQ hp) VN (iv_K_c pq ez hz8 KN (by decide) (by decide)) (by decide) (iv_F_0 (by decide)) es et ht9 Fe
  · have e0 : st p = 4 := es
    rw [e0]
    refine (nm_e (br_f (by decide) (br_f (by decide) (br_f (by decide) (br_f (by decide) (br_t (by decide) ?_))))))
    refine H _ _ _ _ _ _ _ _ _ _ _ _ _ _ _ _ _ _ _ _ _ _ _ _ _ _ _ _ _ _ _ ?_
    exact iv_ms (n := 4) VO VQ VN KN (by decide) Fp es et ht9 Fe
  · have e0 : st p = 5 := es
    rw [e0]
    refine (nm_e (br_f (by decide) (br_f (by decide) (br_f (by decide) (br_f (by decide) (br_f (by decide) (br_t (by decide) ?_)))))))
    refine H _ _ _ _ _ _ _ _ _ _ _ _ _ _ _ _ _ _ _ _ _ _ _ _ _ _ _ _ _ _ _ ?_
    exact iv_ms (n := 5) VO VQ VN KN (by decide) Fp es et ht9 Fe
  · have e0 : st p = 6 := es
    rw [e0]
    refine (nm_e (br_f (by decide) (br_f (by decide) (br_f (by decide) (br_f (by decide) (br_f (by decide) (br_f (by decide) (br_t (by decide) ⟨pv, (nm_e ⟨pv, (nm_e ?_)⟩)⟩))))))))
    refine H _ _ _ _ _ _ _ _ _ _ _ _ _ _ _ _ _ _ _ _ _ _ _ _ _ _ _ _ _ _ _ ?_
    exact iv_mk (n := 7) pq VO VQ VN KN (by decide) (iv_F_7 Fp (hD (Or.inl rfl))) et ht9 Fe
  · have e0 : st p = 7 := es
    rw [e0]
    refine (nm_e (br_f (by decide) (br_f (by decide) (br_f (by decide) (br_f (by decide) (br_f (by decide) (br_f (by decide) (br_f (by decide) (br_t (by decide) (xa_scr HP ez hz8 ⟨pv, (nm_e ?_)⟩))))))))))
    refine H _ _ _ _ _ _ _ _ _ _ _ _ _ _ _ _ _ _ _ _ _ _ _ _ _ _ _ _ _ _ _ ?_
    have S1 := iv_scr (d := p) pq ez hz8 hN KK (Fp.1 (by decide)).1 Fe
    exact iv_mk (n := 6) pq VO (pn_VQ_a VQ hp) VN S1.1 (by decide) S1.2.1 et ht9 S1.2.2
  · have e0 : st p = 8 := es
    rw [e0]
    refine (nm_e (br_f (by decide) (br_f (by decide) (br_f (by decide) (br_f (by decide) (br_f (by decide) (br_f (by decide) (br_f (by decide) (br_f (by decide) (br_t (by decide) ⟨pv, (nm_e (xa_tlu HP ⟨pv, (nm_e ?_)⟩))⟩))))))))))
    refine H _ _ _ _ _ _ _ _ _ _ _ _ _ _ _ _ _ _ _ _ _ _ _ _ _ _ _ _ _ _ _ ?_
    exact iv_mk (n := 9) pq VO VQ VN KN (by decide) (iv_F_9 (iv_F_le Fp (by decide) (by decide) (by decide) (by decide)) (hD (Or.inr rfl)) (Fp.2.2.2 (by decide))) et ht9 Fe
  · have e0 : st p = 9 := es
    rw [e0]
    refine (nm_e (br_f (by decide) (br_f (by decide) (br_f (by decide) (br_f (by decide) (br_f (by decide) (br_f (by decide) (br_f (by decide) (br_f (by decide) (br_f (by decide) (br_t (by decide) ⟨pv, ⟨pv, (nm_e (xa_scr HP ez hz8 ⟨pv, (nm_e ?_)⟩))⟩⟩)))))))))))
    refine H _ _ _ _ _ _ _ _ _ _ _ _ _ _ _ _ _ _ _ _ _ _ _ _ _ _ _ _ _ _ _ ?_
    have S1 := iv_scr (d := p) pq ez hz8 hN KK (Fp.1 (by decide)).1 Fe
    exact iv_mk (n := 6) pq VO (pn_VQ_a VQ hp) VN S1.1 (by decide) S1.2.1 et ht9 S1.2.2
theorem ev_ref (HP : pn_P P p) (pq : p + e = 1) (hN : N + 1 < 2 ^ 31) (VO : pn_VO lo hi ic) (VQ : pn_VQ q) (VN : pn_VN no) (KK : iv_K N ni cr hc se rm w q p e) (es : st p = nI s) (hs9 : s ≤ 9) (Fp : iv_F cr hc lo hi wa ic se lc rm s p e) (et : st e = nI t) (ht9 : t ≤ 9) (Fe : iv_F cr hc lo hi wa ic se lc rm t e p) (hM : ∀ f, f < 7 → ih f = M f) (hs2 : 2 ≤ s) (H : (∀ (C T F K rc : Int32) (st rs ti ni cr hc nk ms ei us dn sa fi lo hi wa ic se lc rm w q ih vd ro no : Nat → Int32), iv_I (N + 1) p e st ni cr hc lo hi wa ic se lc rm w q no → post (C, T, F, K, rc, st, rs, ti, ni, cr, hc, nk, ms, ei, us, dn, sa, fi, lo, hi, wa, ic, se, lc, rm, w, q, ih, vd, ro, no))) : wpX_onRefusal post (C, T, F, K, rc, st, rs, ti, ni, cr, hc, nk, ms, ei, us, dn, sa, fi, lo, hi, wa, ic, se, lc, rm, w, q, ih, vd, ro, no) P := by
  have hp := pp_lt HP
  have pv := pp_v HP
  obtain ⟨z, hz8, ez⟩ := VQ p hp
  obtain ⟨z2, hz82, ez2⟩ := (pn_VQ_a VQ hp) p hp
  have KN := iv_K_N (Nat.le_succ N) hN KK
  have m1 := hM 1 (by decide)
  unfold wpX_onRefusal wX_onRefusal_52 wX_onRefusal_60
  refine ⟨pv, ?_⟩
  rw [pp_n HP]
  have hcase : s = 2 ∨ s = 3 ∨ s = 4 ∨ s = 5 ∨ s = 6 ∨ s = 7 ∨ s = 8 ∨ s = 9 := by omega
  rcases hcase with rfl | rfl | rfl | rfl | rfl | rfl | rfl | rfl
  · have e0 : st p = 2 := es
    rw [e0]
    refine (nm_e (br_f (by decide) (br_f (by decide) (br_t (by decide) (xa_sta HP VN ez hz8 m1 ?_)))))
    refine H _ _ _ _ _ _ _ _ _ _ _ _ _ _ _ _ _ _ _ _ _ _ _ _ _ _ _ _ _ _ _ ?_
    exact iv_ms (n := 2) VO (pn_VQ_a VQ hp) VN (iv_K_c pq ez hz8 KN (by decide) (by decide)) (by decide) (iv_F_0 (by decide)) es et ht9 Fe
  · have e0 : st p = 3 := es
    rw [e0]
    refine (nm_e (br_f (by decide) (br_f (by decide) (br_f (by decide) (br_t (by decide) (xa_sta HP VN ez hz8 m1 ?_))))))
    refine H _ _ _ _ _ _ _ _ _ _ _ _ _ _ _ _ _ _ _ _ _ _ _ _ _ _ _ _ _ _ _ ?_
    exact iv_ms (n := 3) VO (pn_VQ_a VQ hp) VN (iv_K_c pq ez hz8 KN (by decide) (by decide)) (by decide) (iv_F_0 (by decide)) es et ht9 Fe
  · have e0 : st p = 4 := es
    rw [e0]
    refine (nm_e (br_f (by decide) (br_f (by decide) (br_f (by decide) (br_f (by decide) (br_t (by decide) ?_))))))
    refine H _ _ _ _ _ _ _ _ _ _ _ _ _ _ _ _ _ _ _ _ _ _ _ _ _ _ _ _ _ _ _ ?_
    exact iv_ms (n := 4) VO VQ VN KN (by decide) Fp es et ht9 Fe
  · have e0 : st p = 5 := es
    rw [e0]
    refine (nm_e (br_f (by decide) (br_f (by decide) (br_f (by decide) (br_f (by decide) (br_f (by decide) (br_t (by decide) ?_)))))))
    refine H _ _ _ _ _ _ _ _ _ _ _ _ _ _ _ _ _ _ _ _ _ _ _ _ _ _ _ _ _ _ _ ?_
    exact iv_ms (n := 5) VO VQ VN KN (by decide) Fp es et ht9 Fe
  · have e0 : st p = 6 := es
    rw [e0]
    refine (nm_e (br_f (by decide) (br_f (by decide) (br_f (by decide) (br_f (by decide) (br_f (by decide) (br_f (by decide) (br_t (by decide) (xa_adopt HP hM ⟨pv, (nm_e (xa_scr HP ez hz8 ?_))⟩)))))))))
    refine H _ _ _ _ _ _ _ _ _ _ _ _ _ _ _ _ _ _ _ _ _ _ _ _ _ _ _ _ _ _ _ ?_
    have S3 := iv_ado (d := p) (c := M 0) (M := M) pq (Fp.1 (by decide)).1 Fe
    have S1 := iv_scr (d := p) pq ez hz8 hN KK S3.1 S3.2
    exact iv_ms (n := 6) (pn_VO_aI VO hp) (pn_VQ_a VQ hp) VN S1.1 (by decide) S1.2.1 es et ht9 S1.2.2
  · have e0 : st p = 7 := es
    rw [e0]
    refine (nm_e (br_f (by decide) (br_f (by decide) (br_f (by decide) (br_f (by decide) (br_f (by decide) (br_f (by decide) (br_f (by decide) (br_t (by decide) (xa_adopt HP hM (xa_scr HP ez hz8 ⟨pv, (nm_e ?_)⟩)))))))))))
    refine H _ _ _ _ _ _ _ _ _ _ _ _ _ _ _ _ _ _ _ _ _ _ _ _ _ _ _ _ _ _ _ ?_
    have S3 := iv_ado (d := p) (c := M 0) (M := M) pq (Fp.1 (by decide)).1 Fe
    have S1 := iv_scr (d := p) pq ez hz8 hN KK S3.1 S3.2
    exact iv_mk (n := 6) pq (pn_VO_aI VO hp) (pn_VQ_a VQ hp) VN S1.1 (by decide) S1.2.1 et ht9 S1.2.2
  · have e0 : st p = 8 := es
    rw [e0]
    refine (nm_e (br_f (by decide) (br_f (by decide) (br_f (by decide) (br_f (by decide) (br_f (by decide) (br_f (by decide) (br_f (by decide) (br_f (by decide) (br_t (by decide) (xa_adopt HP hM ⟨pv, (nm_e (xa_scr HP ez hz8 ?_))⟩)))))))))))
    refine H _ _ _ _ _ _ _ _ _ _ _ _ _ _ _ _ _ _ _ _ _ _ _ _ _ _ _ _ _ _ _ ?_
    have S3 := iv_ado (d := p) (c := M 0) (M := M) pq (Fp.1 (by decide)).1 Fe
    have S1 := iv_scr (d := p) pq ez hz8 hN KK S3.1 S3.2
    exact iv_ms (n := 8) (pn_VO_aI VO hp) (pn_VQ_a VQ hp) VN S1.1 (by decide) (iv_F_8 S1.2.1 (Fp.2.2.2 (by decide))) es et ht9 S1.2.2
  · have e0 : st p = 9 := es
    rw [e0]
    refine (nm_e (br_f (by decide) (br_f (by decide) (br_f (by decide) (br_f (by decide) (br_f (by decide) (br_f (by decide) (br_f (by decide) (br_f (by decide) (br_f (by decide) (br_t (by decide) (xa_adopt HP hM ⟨pv, ⟨pv, (nm_e (xa_scr HP ez hz8 ⟨pv, (nm_e ?_)⟩))⟩⟩))))))))))))
    refine H _ _ _ _ _ _ _ _ _ _ _ _ _ _ _ _ _ _ _ _ _ _ _ _ _ _ _ _ _ _ _ ?_
    have S3 := iv_ado (d := p) (c := M 0) (M := M) pq (Fp.1 (by decide)).1 Fe
    have S1 := iv_scr (d := p) pq ez hz8 hN KK S3.1 S3.2
    exact iv_mk (n := 6) pq (pn_VO_aI VO hp) (pn_VQ_a VQ hp) VN S1.1 (by decide) S1.2.1 et ht9 S1.2.2
theorem ev_rtr (HP : pn_P P p) (pq : p + e = 1) (hN : N + 1 < 2 ^ 31) (VO : pn_VO lo hi ic) (VQ : pn_VQ q) (VN : pn_VN no) (KK : iv_K N ni cr hc se rm w q p e) (es : st p = nI s) (hs9 : s ≤ 9) (Fp : iv_F cr hc lo hi wa ic se lc rm s p e) (et : st e = nI t) (ht9 : t ≤ 9) (Fe : iv_F cr hc lo hi wa ic se lc rm t e p) (hM : ∀ f, f < 7 → ih f = M f) (hs2 : 2 ≤ s) (H : (∀ (C T F K rc : Int32) (st rs ti ni cr hc nk ms ei us dn sa fi lo hi wa ic se lc rm w q ih vd ro no : Nat → Int32), iv_I (N + 1) p e st ni cr hc lo hi wa ic se lc rm w q no → post (C, T, F, K, rc, st, rs, ti, ni, cr, hc, nk, ms, ei, us, dn, sa, fi, lo, hi, wa, ic, se, lc, rm, w, q, ih, vd, ro, no))) : wpX_onTerminateRequest post (C, T, F, K, rc, st, rs, ti, ni, cr, hc, nk, ms, ei, us, dn, sa, fi, lo, hi, wa, ic, se, lc, rm, w, q, ih, vd, ro, no) P := by
  have hp := pp_lt HP
  have pv := pp_v HP
  obtain ⟨z, hz8, ez⟩ := VQ p hp
  obtain ⟨z2, hz82, ez2⟩ := (pn_VQ_a VQ hp) p hp
  have KN := iv_K_N (Nat.le_succ N) hN KK
  have m1 := hM 1 (by decide)
  unfold wpX_onTerminateRequest wX_onTerminateRequest_70 wX_onTerminateRequest_78
  refine ⟨pv, ?_⟩
  rw [pp_n HP]
  have hcase : s = 2 ∨ s = 3 ∨ s = 4 ∨ s = 5 ∨ s = 6 ∨ s = 7 ∨ s = 8 ∨ s = 9 := by omega
  rcases hcase with rfl | rfl | rfl | rfl | rfl | rfl | rfl | rfl
  · have e0 : st p = 2 := es
    rw [e0]
    refine (br_f (by decide) ⟨pv, (br_f (by decide) ⟨pv, (br_f (by decide) (xa_sta HP VN ez hz8 m1 ?_))⟩)⟩)
    refine H _ _ _ _ _ _ _ _ _ _ _ _ _ _ _ _ _ _ _ _ _ _ _ _ _ _ _ _ _ _ _ ?_
    exact iv_ms (n := 2) VO (pn_VQ_a VQ hp) VN (iv_K_c pq ez hz8 KN (by decide) (by decide)) (by decide) (iv_F_0 (by decide)) es et ht9 Fe
  · have e0 : st p = 3 := es
    rw [e0]
    refine (br_f (by decide) ⟨pv, (br_f (by decide) ⟨pv, (br_f (by decide) (xa_sta HP VN ez hz8 m1 ?_))⟩)⟩)
    refine H _ _ _ _ _ _ _ _ _ _ _ _ _ _ _ _ _ _ _ _ _ _ _ _ _ _ _ _ _ _ _ ?_
    exact iv_ms (n := 3) VO (pn_VQ_a VQ hp) VN (iv_K_c pq ez hz8 KN (by decide) (by decide)) (by decide) (iv_F_0 (by decide)) es et ht9 Fe
  · have e0 : st p = 4 := es
    rw [e0]
    refine (br_f (by decide) ⟨pv, (br_f (by decide) ⟨pv, (br_f (by decide) (xa_sta HP VN ez hz8 m1 ?_))⟩)⟩)
    refine H _ _ _ _ _ _ _ _ _ _ _ _ _ _ _ _ _ _ _ _ _ _ _ _ _ _ _ _ _ _ _ ?_
    exact iv_ms (n := 4) VO (pn_VQ_a VQ hp) VN (iv_K_c pq ez hz8 KN (by decide) (by decide)) (by decide) Fp es et ht9 Fe
  · have e0 : st p = 5 := es
    rw [e0]
    refine (br_f (by decide) ⟨pv, (br_f (by decide) ⟨pv, (br_f (by decide) (xa_sta HP VN ez hz8 m1 ?_))⟩)⟩)
    refine H _ _ _ _ _ _ _ _ _ _ _ _ _ _ _ _ _ _ _ _ _ _ _ _ _ _ _ _ _ _ _ ?_
    exact iv_ms (n := 5) VO (pn_VQ_a VQ hp) VN (iv_K_c pq ez hz8 KN (by decide) (by decide)) (by decide) Fp es et ht9 Fe
  · have e0 : st p = 6 := es
    rw [e0]
    refine (br_f (by decide) ⟨pv, (br_f (by decide) ⟨pv, (br_f (by decide) (xa_sta HP VN ez hz8 m1 ?_))⟩)⟩)
    refine H _ _ _ _ _ _ _ _ _ _ _ _ _ _ _ _ _ _ _ _ _ _ _ _ _ _ _ _ _ _ _ ?_
    exact iv_ms (n := 6) VO (pn_VQ_a VQ hp) VN (iv_K_c pq ez hz8 KN (by decide) (by decide)) (by decide) Fp es et ht9 Fe
  · have e0 : st p = 7 := es
    rw [e0]
    refine (br_f (by decide) ⟨pv, (br_t (by decide) ⟨pv, (nm_e (xa_sta HP VN ez hz8 m1 ?_))⟩)⟩)
    refine H _ _ _ _ _ _ _ _ _ _ _ _ _ _ _ _ _ _ _ _ _ _ _ _ _ _ _ _ _ _ _ ?_
    exact iv_mk (n := 6) pq VO (pn_VQ_a VQ hp) VN (iv_K_c pq ez hz8 KN (by decide) (by decide)) (by decide) (iv_F_le Fp (by decide) (by decide) (by decide) (by decide)) et ht9 Fe
  · have e0 : st p = 8 := es
    rw [e0]
    refine (br_f (by decide) ⟨pv, (br_f (by decide) ⟨pv, (br_t (by decide) ⟨pv, (nm_e (xa_sta HP VN ez hz8 m1 ?_))⟩)⟩)⟩)
    refine H _ _ _ _ _ _ _ _ _ _ _ _ _ _ _ _ _ _ _ _ _ _ _ _ _ _ _ _ _ _ _ ?_
    exact iv_mk (n := 6) pq VO (pn_VQ_a VQ hp) VN (iv_K_c pq ez hz8 KN (by decide) (by decide)) (by decide) (iv_F_le Fp (by decide) (by decide) (by decide) (by decide)) et ht9 Fe
  · have e0 : st p = 9 := es
    rw [e0]
    refine (br_t (by decide) ⟨pv, ⟨pv, (nm_e ⟨pv, (nm_e ⟨pv, (nm_e ⟨pv, (nm_e (xa_sta HP VN ez hz8 m1 ?_))⟩)⟩)⟩)⟩⟩)
    refine H _ _ _ _ _ _ _ _ _ _ _ _ _ _ _ _ _ _ _ _ _ _ _ _ _ _ _ _ _ _ _ ?_
    exact iv_mk (n := 5) pq VO (pn_VQ_a VQ hp) VN (iv_K_c pq ez hz8 KN (by decide) (by decide)) (by decide) (iv_F_le Fp (by decide) (by decide) (by decide) (by decide)) et ht9 Fe
theorem ev_rta (HP : pn_P P p) (pq : p + e = 1) (hN : N + 1 < 2 ^ 31) (VO : pn_VO lo hi ic) (VQ : pn_VQ q) (VN : pn_VN no) (KK : iv_K N ni cr hc se rm w q p e) (es : st p = nI s) (hs9 : s ≤ 9) (Fp : iv_F cr hc lo hi wa ic se lc rm s p e) (et : st e = nI t) (ht9 : t ≤ 9) (Fe : iv_F cr hc lo hi wa ic se lc rm t e p) (hM : ∀ f, f < 7 → ih f = M f) (hs2 : 2 ≤ s) (H : (∀ (C T F K rc : Int32) (st rs ti ni cr hc nk ms ei us dn sa fi lo hi wa ic se lc rm w q ih vd ro no : Nat → Int32), iv_I (N + 1) p e st ni cr hc lo hi wa ic se lc rm w q no → post (C, T, F, K, rc, st, rs, ti, ni, cr, hc, nk, ms, ei, us, dn, sa, fi, lo, hi, wa, ic, se, lc, rm, w, q, ih, vd, ro, no))) : wpX_onTerminateAck post (C, T, F, K, rc, st, rs, ti, ni, cr, hc, nk, ms, ei, us, dn, sa, fi, lo, hi, wa, ic, se, lc, rm, w, q, ih, vd, ro, no) P := by
  have hp := pp_lt HP
  have pv := pp_v HP
  obtain ⟨z, hz8, ez⟩ := VQ p hp
  obtain ⟨z2, hz82, ez2⟩ := (pn_VQ_a VQ hp) p hp
  have KN := iv_K_N (Nat.le_succ N) hN KK
  have m1 := hM 1 (by decide)
  unfold wpX_onTerminateAck wX_onTerminateAck_44
  refine ⟨pv, ?_⟩
  rw [pp_n HP]
  have hcase : s = 2 ∨ s = 3 ∨ s = 4 ∨ s = 5 ∨ s = 6 ∨ s = 7 ∨ s = 8 ∨ s = 9 := by omega
  rcases hcase with rfl | rfl | rfl | rfl | rfl | rfl | rfl | rfl
  · have e0 : st p = 2 := es
    rw [e0]
    refine (nm_e (br_t (by decide) ?_))
    refine H _ _ _ _ _ _ _ _ _ _ _ _ _ _ _ _ _ _ _ _ _ _ _ _ _ _ _ _ _ _ _ ?_
    exact iv_ms (n := 2) VO VQ VN KN (by decide) (iv_F_0 (by decide)) es et ht9 Fe
  · have e0 : st p = 3 := es
    rw [e0]
    refine (nm_e (br_t (by decide) ?_))
    refine H _ _ _ _ _ _ _ _ _ _ _ _ _ _ _ _ _ _ _ _ _ _ _ _ _ _ _ _ _ _ _ ?_
    exact iv_ms (n := 3) VO VQ VN KN (by decide) (iv_F_0 (by decide)) es et ht9 Fe
  · have e0 : st p = 4 := es
    rw [e0]
    refine (nm_e (br_f (by decide) (br_f (by decide) (br_t (by decide) (xa_fin4 HP e0 ?_)))))
    refine H _ _ _ _ _ _ _ _ _ _ _ _ _ _ _ _ _ _ _ _ _ _ _ _ _ _ _ _ _ _ _ ?_
    exact iv_mk (n := 2) pq VO VQ VN KN (by decide) (iv_F_0 (by decide)) et ht9 Fe
  · have e0 : st p = 5 := es
    rw [e0]
    refine (nm_e (br_f (by decide) (br_f (by decide) (br_f (by decide) (br_t (by decide) (xa_fingt HP (by rw [e0]; decide) (by rw [e0]; decide) ?_))))))
    refine H _ _ _ _ _ _ _ _ _ _ _ _ _ _ _ _ _ _ _ _ _ _ _ _ _ _ _ _ _ _ _ ?_
    exact iv_mk (n := 3) pq VO VQ VN KN (by decide) (iv_F_0 (by decide)) et ht9 Fe
  · have e0 : st p = 6 := es
    rw [e0]
    refine (nm_e (br_f (by decide) (br_f (by decide) (br_f (by decide) (br_f (by decide) (br_t (by decide) ?_))))))
    refine H _ _ _ _ _ _ _ _ _ _ _ _ _ _ _ _ _ _ _ _ _ _ _ _ _ _ _ _ _ _ _ ?_
    exact iv_ms (n := 6) VO VQ VN KN (by decide) Fp es et ht9 Fe
  · have e0 : st p = 7 := es
    rw [e0]
    refine (nm_e (br_f (by decide) (br_f (by decide) (br_f (by decide) (br_f (by decide) (br_f (by decide) (br_t (by decide) ⟨pv, (nm_e ?_)⟩)))))))
    refine H _ _ _ _ _ _ _ _ _ _ _ _ _ _ _ _ _ _ _ _ _ _ _ _ _ _ _ _ _ _ _ ?_
    exact iv_mk (n := 6) pq VO VQ VN KN (by decide) (iv_F_le Fp (by decide) (by decide) (by decide) (by decide)) et ht9 Fe
  · have e0 : st p = 8 := es
    rw [e0]
    refine (nm_e (br_f (by decide) (br_f (by decide) (br_f (by decide) (br_f (by decide) (br_f (by decide) (br_f (by decide) (br_t (by decide) ?_))))))))
    refine H _ _ _ _ _ _ _ _ _ _ _ _ _ _ _ _ _ _ _ _ _ _ _ _ _ _ _ _ _ _ _ ?_
    exact iv_ms (n := 8) VO VQ VN KN (by decide) Fp es et ht9 Fe
  · have e0 : st p = 9 := es
    rw [e0]
    refine (nm_e (br_f (by decide) (br_f (by decide) (br_f (by decide) (br_f (by decide) (br_f (by decide) (br_f (by decide) (br_f (by decide) (br_t (by decide) ⟨pv, ⟨pv, (nm_e (xa_scr HP ez hz8 ⟨pv, (nm_e ?_)⟩))⟩⟩)))))))))
    refine H _ _ _ _ _ _ _ _ _ _ _ _ _ _ _ _ _ _ _ _ _ _ _ _ _ _ _ _ _ _ _ ?_
    have S1 := iv_scr (d := p) pq ez hz8 hN KK (Fp.1 (by decide)).1 Fe
    exact iv_mk (n := 6) pq VO (pn_VQ_a VQ hp) VN S1.1 (by decide) S1.2.1 et ht9 S1.2.2
theorem ev_rxj (HP : pn_P P p) (pq : p + e = 1) (hN : N + 1 < 2 ^ 31) (VO : pn_VO lo hi ic) (VQ : pn_VQ q) (VN : pn_VN no) (KK : iv_K N ni cr hc se rm w q p e) (es : st p = nI s) (hs9 : s ≤ 9) (Fp : iv_F cr hc lo hi wa ic se lc rm s p e) (et : st e = nI t) (ht9 : t ≤ 9) (Fe : iv_F cr hc lo hi wa ic se lc rm t e p) (hM : ∀ f, f < 7 → ih f = M f) (hs2 : 2 ≤ s) (b1 : ¬ M 2 < 1) (b7 : M 2 ≤ 7) (H : (∀ (C T F K rc : Int32) (st rs ti ni cr hc nk ms ei us dn sa fi lo hi wa ic se lc rm w q ih vd ro no : Nat → Int32), iv_I (N + 1) p e st ni cr hc lo hi wa ic se lc rm w q no → post (C, T, F, K, rc, st, rs, ti, ni, cr, hc, nk, ms, ei, us, dn, sa, fi, lo, hi, wa, ic, se, lc, rm, w, q, ih, vd, ro, no))) : wpX_onCodeReject post (C, T, F, K, rc, st, rs, ti, ni, cr, hc, nk, ms, ei, us, dn, sa, fi, lo, hi, wa, ic, se, lc, rm, w, q, ih, vd, ro, no) P := by
  have hp := pp_lt HP
  have pv := pp_v HP
  obtain ⟨z, hz8, ez⟩ := VQ p hp
  obtain ⟨z2, hz82, ez2⟩ := (pn_VQ_a VQ hp) p hp
  have KN := iv_K_N (Nat.le_succ N) hN KK
  have m1 := hM 1 (by decide)
  have m2 := hM 2 (by decide)
  rw [← m2] at b1 b7
  unfold wpX_onCodeReject
  refine nm_e ?_
  rw [pp_n HP]
  have hcase : s = 2 ∨ s = 3 ∨ s = 4 ∨ s = 5 ∨ s = 6 ∨ s = 7 ∨ s = 8 ∨ s = 9 := by omega
  rcases hcase with rfl | rfl | rfl | rfl | rfl | rfl | rfl | rfl
  · have e0 : st p = 2 := es
    rw [e0]
    refine (br_f b1 (br_t b7 ⟨pv, (br_f (by decide) (xa_finle HP (by rw [e0]; decide) (by rw [e0]; decide) ?_))⟩))
    refine H _ _ _ _ _ _ _ _ _ _ _ _ _ _ _ _ _ _ _ _ _ _ _ _ _ _ _ _ _ _ _ ?_
    exact iv_ms (n := 2) VO VQ VN KN (by decide) (iv_F_0 (by decide)) es et ht9 Fe
  · have e0 : st p = 3 := es
    rw [e0]
    refine (br_f b1 (br_t b7 ⟨pv, (br_f (by decide) (xa_finle HP (by rw [e0]; decide) (by rw [e0]; decide) ?_))⟩))
    refine H _ _ _ _ _ _ _ _ _ _ _ _ _ _ _ _ _ _ _ _ _ _ _ _ _ _ _ _ _ _ _ ?_
    exact iv_ms (n := 3) VO VQ VN KN (by decide) (iv_F_0 (by decide)) es et ht9 Fe
  · have e0 : st p = 4 := es
    rw [e0]
    refine (br_f b1 (br_t b7 ⟨pv, (br_f (by decide) (xa_fin4 HP e0 ?_))⟩))
    refine H _ _ _ _ _ _ _ _ _ _ _ _ _ _ _ _ _ _ _ _ _ _ _ _ _ _ _ _ _ _ _ ?_
    exact iv_mk (n := 2) pq VO VQ VN KN (by decide) (iv_F_0 (by decide)) et ht9 Fe
  · have e0 : st p = 5 := es
    rw [e0]
    refine (br_f b1 (br_t b7 ⟨pv, (br_f (by decide) (xa_fingt HP (by rw [e0]; decide) (by rw [e0]; decide) ?_))⟩))
    refine H _ _ _ _ _ _ _ _ _ _ _ _ _ _ _ _ _ _ _ _ _ _ _ _ _ _ _ _ _ _ _ ?_
    exact iv_mk (n := 3) pq VO VQ VN KN (by decide) (iv_F_0 (by decide)) et ht9 Fe
  · have e0 : st p = 6 := es
    rw [e0]
    refine (br_f b1 (br_t b7 ⟨pv, (br_f (by decide) (xa_fingt HP (by rw [e0]; decide) (by rw [e0]; decide) ?_))⟩))
    refine H _ _ _ _ _ _ _ _ _ _ _ _ _ _ _ _ _ _ _ _ _ _ _ _ _ _ _ _ _ _ _ ?_
    exact iv_mk (n := 3) pq VO VQ VN KN (by decide) (iv_F_0 (by decide)) et ht9 Fe
  · have e0 : st p = 7 := es
    rw [e0]
    refine (br_f b1 (br_t b7 ⟨pv, (br_f (by decide) (xa_fingt HP (by rw [e0]; decide) (by rw [e0]; decide) ?_))⟩))
    refine H _ _ _ _ _ _ _ _ _ _ _ _ _ _ _ _ _ _ _ _ _ _ _ _ _ _ _ _ _ _ _ ?_
    exact iv_mk (n := 3) pq VO VQ VN KN (by decide) (iv_F_0 (by decide)) et ht9 Fe
  · have e0 : st p = 8 := es
    rw [e0]
    refine (br_f b1 (br_t b7 ⟨pv, (br_f (by decide) (xa_fingt HP (by rw [e0]; decide) (by rw [e0]; decide) ?_))⟩))
    refine H _ _ _ _ _ _ _ _ _ _ _ _ _ _ _ _ _ _ _ _ _ _ _ _ _ _ _ _ _ _ _ ?_
    exact iv_mk (n := 3) pq VO VQ VN KN (by decide) (iv_F_0 (by decide)) et ht9 Fe
  · have e0 : st p = 9 := es
    rw [e0]
    refine (br_f b1 (br_t b7 ⟨pv, (br_t (by decide) ⟨pv, ⟨pv, (nm_e (xa_bterm HP VN ez hz8 ?_))⟩⟩)⟩))
    refine H _ _ _ _ _ _ _ _ _ _ _ _ _ _ _ _ _ _ _ _ _ _ _ _ _ _ _ _ _ _ _ ?_
    exact iv_mk (n := 5) pq VO (pn_VQ_a VQ hp) VN (iv_K_c pq ez hz8 (iv_ni pq hN KK) (by decide) (by decide)) (by decide) (iv_F_le Fp (by decide) (by decide) (by decide) (by decide)) et ht9 Fe
theorem ev_top (HP : pn_P P p) (pq : p + e = 1) (hN : N + 1 < 2 ^ 31) (VO : pn_VO lo hi ic) (VQ : pn_VQ q) (VN : pn_VN no) (KK : iv_K N ni cr hc se rm w q p e) (es : st p = nI s) (hs9 : s ≤ 9) (Fp : iv_F cr hc lo hi wa ic se lc rm s p e) (et : st e = nI t) (ht9 : t ≤ 9) (Fe : iv_F cr hc lo hi wa ic se lc rm t e p) (hr : 0 < rs p) (hs4 : 4 ≤ s) (hs8 : s ≤ 8) (H : (∀ (C T F K rc : Int32) (st rs ti ni cr hc nk ms ei us dn sa fi lo hi wa ic se lc rm w q ih vd ro no : Nat → Int32), iv_I (N + 1) p e st ni cr hc lo hi wa ic se lc rm w q no → post (C, T, F, K, rc, st, rs, ti, ni, cr, hc, nk, ms, ei, us, dn, sa, fi, lo, hi, wa, ic, se, lc, rm, w, q, ih, vd, ro, no))) : wpX_onTimeout post (C, T, F, K, rc, st, rs, ti, ni, cr, hc, nk, ms, ei, us, dn, sa, fi, lo, hi, wa, ic, se, lc, rm, w, q, ih, vd, ro, no) P := by
  have hp := pp_lt HP
  have pv := pp_v HP
  obtain ⟨z, hz8, ez⟩ := VQ p hp
  obtain ⟨z2, hz82, ez2⟩ := (pn_VQ_a VQ hp) p hp
  have KN := iv_K_N (Nat.le_succ N) hN KK
  unfold wpX_onTimeout wX_onTimeout_37
  refine ⟨pv, ?_⟩
  rw [pp_n HP]
  have hcase : s = 4 ∨ s = 5 ∨ s = 6 ∨ s = 7 ∨ s = 8 := by omega
  rcases hcase with rfl | rfl | rfl | rfl | rfl
  · have e0 : st p = 4 := es
    rw [e0]
    refine (br_t hr ⟨pv, (br_t (by decide) (xa_str HP VN ez hz8 ?_))⟩)
    refine H _ _ _ _ _ _ _ _ _ _ _ _ _ _ _ _ _ _ _ _ _ _ _ _ _ _ _ _ _ _ _ ?_
    exact iv_ms (n := 4) VO (pn_VQ_a VQ hp) VN (iv_K_c pq ez hz8 (iv_ni pq hN KK) (by decide) (by decide)) (by decide) Fp es et ht9 Fe
  · have e0 : st p = 5 := es
    rw [e0]
    refine (br_t hr ⟨pv, (br_f (by decide) ⟨pv, (br_t (by decide) (xa_str HP VN ez hz8 ?_))⟩)⟩)
    refine H _ _ _ _ _ _ _ _ _ _ _ _ _ _ _ _ _ _ _ _ _ _ _ _ _ _ _ _ _ _ _ ?_
    exact iv_ms (n := 5) VO (pn_VQ_a VQ hp) VN (iv_K_c pq ez hz8 (iv_ni pq hN KK) (by decide) (by decide)) (by decide) Fp es et ht9 Fe
  · have e0 : st p = 6 := es
    rw [e0]
    refine (br_t hr ⟨pv, (br_f (by decide) ⟨pv, (br_f (by decide) (xa_scr HP ez hz8 ⟨pv, (br_f (by rw [e0]; decide) ?_)⟩))⟩)⟩)
    refine H _ _ _ _ _ _ _ _ _ _ _ _ _ _ _ _ _ _ _ _ _ _ _ _ _ _ _ _ _ _ _ ?_
    have S1 := iv_scr (d := p) pq ez hz8 hN KK (Fp.1 (by decide)).1 Fe
    exact iv_ms (n := 6) VO (pn_VQ_a VQ hp) VN S1.1 (by decide) S1.2.1 es et ht9 S1.2.2
  · have e0 : st p = 7 := es
    rw [e0]
    refine (br_t hr ⟨pv, (br_f (by decide) ⟨pv, (br_f (by decide) (xa_scr HP ez hz8 ⟨pv, (br_t e0 ⟨pv, (nm_e ?_)⟩)⟩))⟩)⟩)
    refine H _ _ _ _ _ _ _ _ _ _ _ _ _ _ _ _ _ _ _ _ _ _ _ _ _ _ _ _ _ _ _ ?_
    have S1 := iv_scr (d := p) pq ez hz8 hN KK (Fp.1 (by decide)).1 Fe
    exact iv_mk (n := 6) pq VO (pn_VQ_a VQ hp) VN S1.1 (by decide) S1.2.1 et ht9 S1.2.2
  · have e0 : st p = 8 := es
    rw [e0]
    refine (br_t hr ⟨pv, (br_f (by decide) ⟨pv, (br_f (by decide) (xa_scr HP ez hz8 ⟨pv, (br_f (by rw [e0]; decide) ?_)⟩))⟩)⟩)
    refine H _ _ _ _ _ _ _ _ _ _ _ _ _ _ _ _ _ _ _ _ _ _ _ _ _ _ _ _ _ _ _ ?_
    have S1 := iv_scr (d := p) pq ez hz8 hN KK (Fp.1 (by decide)).1 Fe
    exact iv_ms (n := 8) VO (pn_VQ_a VQ hp) VN S1.1 (by decide) (iv_F_8 S1.2.1 (Fp.2.2.2 (by decide))) es et ht9 S1.2.2
theorem ev_tom (HP : pn_P P p) (pq : p + e = 1) (hN : N + 1 < 2 ^ 31) (VO : pn_VO lo hi ic) (VQ : pn_VQ q) (VN : pn_VN no) (KK : iv_K N ni cr hc se rm w q p e) (es : st p = nI s) (hs9 : s ≤ 9) (Fp : iv_F cr hc lo hi wa ic se lc rm s p e) (et : st e = nI t) (ht9 : t ≤ 9) (Fe : iv_F cr hc lo hi wa ic se lc rm t e p) (hr : ¬ 0 < rs p) (hs4 : 4 ≤ s) (hs8 : s ≤ 8) (H : (∀ (C T F K rc : Int32) (st rs ti ni cr hc nk ms ei us dn sa fi lo hi wa ic se lc rm w q ih vd ro no : Nat → Int32), iv_I (N + 1) p e st ni cr hc lo hi wa ic se lc rm w q no → post (C, T, F, K, rc, st, rs, ti, ni, cr, hc, nk, ms, ei, us, dn, sa, fi, lo, hi, wa, ic, se, lc, rm, w, q, ih, vd, ro, no))) : wpX_onTimeout post (C, T, F, K, rc, st, rs, ti, ni, cr, hc, nk, ms, ei, us, dn, sa, fi, lo, hi, wa, ic, se, lc, rm, w, q, ih, vd, ro, no) P := by
  have hp := pp_lt HP
  have pv := pp_v HP
  obtain ⟨z, hz8, ez⟩ := VQ p hp
  obtain ⟨z2, hz82, ez2⟩ := (pn_VQ_a VQ hp) p hp
  have KN := iv_K_N (Nat.le_succ N) hN KK
  unfold wpX_onTimeout
  refine ⟨pv, ?_⟩
  rw [pp_n HP]
  have hcase : s = 4 ∨ s = 5 ∨ s = 6 ∨ s = 7 ∨ s = 8 := by omega
  rcases hcase with rfl | rfl | rfl | rfl | rfl
  · have e0 : st p = 4 := es
    rw [e0]
    refine (br_f hr (xa_fin4 HP e0 ?_))
    refine H _ _ _ _ _ _ _ _ _ _ _ _ _ _ _ _ _ _ _ _ _ _ _ _ _ _ _ _ _ _ _ ?_
    exact iv_mk (n := 2) pq VO VQ VN KN (by decide) (iv_F_0 (by decide)) et ht9 Fe
  · have e0 : st p = 5 := es
    rw [e0]
    refine (br_f hr (xa_fingt HP (by rw [e0]; decide) (by rw [e0]; decide) ?_))
    refine H _ _ _ _ _ _ _ _ _ _ _ _ _ _ _ _ _ _ _ _ _ _ _ _ _ _ _ _ _ _ _ ?_
    exact iv_mk (n := 3) pq VO VQ VN KN (by decide) (iv_F_0 (by decide)) et ht9 Fe
  · have e0 : st p = 6 := es
    rw [e0]
    refine (br_f hr (xa_fingt HP (by rw [e0]; decide) (by rw [e0]; decide) ?_))
    refine H _ _ _ _ _ _ _ _ _ _ _ _ _ _ _ _ _ _ _ _ _ _ _ _ _ _ _ _ _ _ _ ?_
    exact iv_mk (n := 3) pq VO VQ VN KN (by decide) (iv_F_0 (by decide)) et ht9 Fe
  · have e0 : st p = 7 := es
    rw [e0]
    refine (br_f hr (xa_fingt HP (by rw [e0]; decide) (by rw [e0]; decide) ?_))
    refine H _ _ _ _ _ _ _ _ _ _ _ _ _ _ _ _ _ _ _ _ _ _ _ _ _ _ _ _ _ _ _ ?_
    exact iv_mk (n := 3) pq VO VQ VN KN (by decide) (iv_F_0 (by decide)) et ht9 Fe
  · have e0 : st p = 8 := es
    rw [e0]
    refine (br_f hr (xa_fingt HP (by rw [e0]; decide) (by rw [e0]; decide) ?_))
    refine H _ _ _ _ _ _ _ _ _ _ _ _ _ _ _ _ _ _ _ _ _ _ _ _ _ _ _ _ _ _ _ ?_
    exact iv_mk (n := 3) pq VO VQ VN KN (by decide) (iv_F_0 (by decide)) et ht9 Fe
theorem ev_down (HP : pn_P P p) (pq : p + e = 1) (hN : N + 1 < 2 ^ 31) (VO : pn_VO lo hi ic) (VQ : pn_VQ q) (VN : pn_VN no) (KK : iv_K N ni cr hc se rm w q p e) (es : st p = nI s) (hs9 : s ≤ 9) (Fp : iv_F cr hc lo hi wa ic se lc rm s p e) (et : st e = nI t) (ht9 : t ≤ 9) (Fe : iv_F cr hc lo hi wa ic se lc rm t e p) (H : (∀ (C T F K rc : Int32) (st rs ti ni cr hc nk ms ei us dn sa fi lo hi wa ic se lc rm w q ih vd ro no : Nat → Int32), iv_I (N + 1) p e st ni cr hc lo hi wa ic se lc rm w q no → post (C, T, F, K, rc, st, rs, ti, ni, cr, hc, nk, ms, ei, us, dn, sa, fi, lo, hi, wa, ic, se, lc, rm, w, q, ih, vd, ro, no))) : wpX_onDown post (C, T, F, K, rc, st, rs, ti, ni, cr, hc, nk, ms, ei, us, dn, sa, fi, lo, hi, wa, ic, se, lc, rm, w, q, ih, vd, ro, no) P := by
  have hp := pp_lt HP
  have pv := pp_v HP
  obtain ⟨z, hz8, ez⟩ := VQ p hp
  obtain ⟨z2, hz82, ez2⟩ := (pn_VQ_a VQ hp) p hp
  have KN := iv_K_N (Nat.le_succ N) hN KK
  unfold wpX_onDown
  refine ⟨pv, ?_⟩
  rw [pp_n HP]
  have hcase : s = 0 ∨ s = 1 ∨ s = 2 ∨ s = 3 ∨ s = 4 ∨ s = 5 ∨ s = 6 ∨ s = 7 ∨ s = 8 ∨ s = 9 := by omega
  rcases hcase with rfl | rfl | rfl | rfl | rfl | rfl | rfl | rfl | rfl | rfl
  · have e0 : st p = 0 := es
    rw [e0]
    refine (nm_e (br_t (by decide) ?_))
    refine H _ _ _ _ _ _ _ _ _ _ _ _ _ _ _ _ _ _ _ _ _ _ _ _ _ _ _ _ _ _ _ ?_
    exact iv_ms (n := 0) VO VQ VN KN (by decide) (iv_F_0 (by decide)) es et ht9 Fe
  · have e0 : st p = 1 := es
    rw [e0]
    refine (nm_e (br_t (by decide) ?_))
    refine H _ _ _ _ _ _ _ _ _ _ _ _ _ _ _ _ _ _ _ _ _ _ _ _ _ _ _ _ _ _ _ ?_
    exact iv_ms (n := 1) VO VQ VN KN (by decide) (iv_F_0 (by decide)) es et ht9 Fe
  · have e0 : st p = 2 := es
    rw [e0]
    refine (nm_e (br_f (by decide) (br_f (by decide) (br_t (by decide) ⟨pv, (nm_e ?_)⟩))))
    refine H _ _ _ _ _ _ _ _ _ _ _ _ _ _ _ _ _ _ _ _ _ _ _ _ _ _ _ _ _ _ _ ?_
    exact iv_mk (n := 0) pq VO VQ VN KN (by decide) (iv_F_0 (by decide)) et ht9 Fe
  · have e0 : st p = 3 := es
    rw [e0]
    refine (nm_e (br_f (by decide) (br_f (by decide) (br_f (by decide) (br_t (by decide) ⟨pv, ⟨pv, (nm_e ⟨pv, (nm_e ?_)⟩)⟩⟩)))))
    refine H _ _ _ _ _ _ _ _ _ _ _ _ _ _ _ _ _ _ _ _ _ _ _ _ _ _ _ _ _ _ _ ?_
    exact iv_mk (n := 1) pq VO VQ VN KN (by decide) (iv_F_0 (by decide)) et ht9 Fe
  · have e0 : st p = 4 := es
    rw [e0]
    refine (nm_e (br_f (by decide) (br_f (by decide) (br_f (by decide) (br_f (by decide) (br_t (by decide) ⟨pv, (nm_e ?_)⟩))))))
    refine H _ _ _ _ _ _ _ _ _ _ _ _ _ _ _ _ _ _ _ _ _ _ _ _ _ _ _ _ _ _ _ ?_
    exact iv_mk (n := 0) pq VO VQ VN KN (by decide) (iv_F_0 (by decide)) et ht9 Fe
  · have e0 : st p = 5 := es
    rw [e0]
    refine (nm_e (br_f (by decide) (br_f (by decide) (br_f (by decide) (br_f (by decide) (br_f (by decide) (br_t (by decide) ⟨pv, (nm_e ?_)⟩)))))))
    refine H _ _ _ _ _ _ _ _ _ _ _ _ _ _ _ _ _ _ _ _ _ _ _ _ _ _ _ _ _ _ _ ?_
    exact iv_mk (n := 1) pq VO VQ VN KN (by decide) (iv_F_0 (by decide)) et ht9 Fe
  · have e0 : st p = 6 := es
    rw [e0]
    refine (nm_e (br_f (by decide) (br_f (by decide) (br_f (by decide) (br_f (by decide) (br_f (by decide) (br_f (by decide) (br_t (by decide) ⟨pv, (nm_e ?_)⟩))))))))
    refine H _ _ _ _ _ _ _ _ _ _ _ _ _ _ _ _ _ _ _ _ _ _ _ _ _ _ _ _ _ _ _ ?_
    exact iv_mk (n := 1) pq VO VQ VN KN (by decide) (iv_F_0 (by decide)) et ht9 Fe
  · have e0 : st p = 7 := es
    rw [e0]
    refine (nm_e (br_f (by decide) (br_f (by decide) (br_f (by decide) (br_f (by decide) (br_f (by decide) (br_f (by decide) (br_f (by decide) (br_t (by decide) ⟨pv, (nm_e ?_)⟩)))))))))
    refine H _ _ _ _ _ _ _ _ _ _ _ _ _ _ _ _ _ _ _ _ _ _ _ _ _ _ _ _ _ _ _ ?_
    exact iv_mk (n := 1) pq VO VQ VN KN (by decide) (iv_F_0 (by decide)) et ht9 Fe
  · have e0 : st p = 8 := es
    rw [e0]
    refine (nm_e (br_f (by decide) (br_f (by decide) (br_f (by decide) (br_f (by decide) (br_f (by decide) (br_f (by decide) (br_f (by decide) (br_f (by decide) (br_t (by decide) ⟨pv, (nm_e ?_)⟩))))))))))
    refine H _ _ _ _ _ _ _ _ _ _ _ _ _ _ _ _ _ _ _ _ _ _ _ _ _ _ _ _ _ _ _ ?_
    exact iv_mk (n := 1) pq VO VQ VN KN (by decide) (iv_F_0 (by decide)) et ht9 Fe
  · have e0 : st p = 9 := es
    rw [e0]
    refine (nm_e (br_f (by decide) (br_f (by decide) (br_f (by decide) (br_f (by decide) (br_f (by decide) (br_f (by decide) (br_f (by decide) (br_f (by decide) (br_f (by decide) (br_t (by decide) ⟨pv, ⟨pv, (nm_e ⟨pv, (nm_e ?_)⟩)⟩⟩)))))))))))
    refine H _ _ _ _ _ _ _ _ _ _ _ _ _ _ _ _ _ _ _ _ _ _ _ _ _ _ _ _ _ _ _ ?_
    exact iv_mk (n := 1) pq VO VQ VN KN (by decide) (iv_F_0 (by decide)) et ht9 Fe
end EV
end
section
theorem pn_codes (x : Int32) : x < 1 ∨ 11 < x ∨ x = 1 ∨ x = 2 ∨ x = 3 ∨ x = 4 ∨ x = 5 ∨ x = 6 ∨ x = 7 ∨ x = 8 ∨ x = 9 ∨ x = 10 ∨ x = 11 := by
  by_cases h1 : x < 1
  · exact Or.inl h1
  by_cases h2 : 11 < x
  · exact Or.inr (Or.inl h2)
  have hx : x ≤ 11 := Int32.not_lt.mp h2
  have h0 : ¬ x < 0 := fun z => h1 (Int32.lt_trans z (by decide))
  obtain ⟨j, hj, rfl⟩ := nI_of2 (M := 11) (n := 11) (by decide) h0 hx
  have hj1 : 1 ≤ j := by
    rcases Nat.eq_zero_or_pos j with rfl | h
    · exact absurd (by decide) h1
    · exact h
  have : j = 1 ∨ j = 2 ∨ j = 3 ∨ j = 4 ∨ j = 5 ∨ j = 6 ∨ j = 7 ∨ j = 8 ∨ j = 9 ∨ j = 10 ∨ j = 11 := by omega
  rcases this with rfl | rfl | rfl | rfl | rfl | rfl | rfl | rfl | rfl | rfl | rfl <;> decide
theorem pn_lt12 {x : Int32} (h : x < 1) : x < 2 := Int32.lt_trans h (by decide)
theorem pn_gt1 {x : Int32} (h : 11 < x) : ¬ x < 1 := fun z => absurd (Int32.lt_trans h z) (by decide)
theorem pn_gt2 {x : Int32} (h : 11 < x) : ¬ x < 2 := fun z => absurd (Int32.lt_trans h z) (by decide)
theorem pn_gt4 {x : Int32} (h : 11 < x) : 4 < x := Int32.lt_trans (by decide) h
section RV
variable {C T F K rc : Int32} {st rs ti ni cr hc nk ms ei us dn sa fi lo hi wa ic se lc rm w q ih vd ro no : Nat → Int32} {P : Int32} {p : Nat} {post : St2 → Prop}
variable {M R : Nat → Int32} {N e s t : Nat}
theorem pn_C2 {J : Nat → Int32} {n f : Int32} : pn_C J n f = 2 ↔ (pn_R J = 0 ∧ pn_N J = 0) := by
  unfold pn_C
  by_cases c1 : pn_R J = 0
  · rw [if_pos c1]
    by_cases c2 : pn_N J = 0
    · rw [if_pos c2]; exact ⟨fun _ => ⟨c1, c2⟩, fun _ => rfl⟩
    · rw [if_neg c2]
      by_cases c3 : n < f
      · rw [if_pos c3]; exact ⟨fun e => absurd e (by decide), fun e => absurd e.2 c2⟩
      · rw [if_neg c3]; exact ⟨fun e => absurd e (by decide), fun e => absurd e.2 c2⟩
  · rw [if_neg c1]; exact ⟨fun e => absurd e (by decide), fun e => absurd e.1 c1⟩
theorem pn_C1 {J : Nat → Int32} {n f : Int32} : ¬ pn_C J n f = 1 := by
  unfold pn_C
  by_cases c1 : pn_R J = 0
  · rw [if_pos c1]
    by_cases c2 : pn_N J = 0
    · rw [if_pos c2]; decide
    · rw [if_neg c2]
      by_cases c3 : n < f
      · rw [if_pos c3]; decide
      · rw [if_neg c3]; decide
  · rw [if_neg c1]; decide
theorem iv_F_lc {lc2 : Nat → Int32} (I : iv_F cr hc lo hi wa ic se lc rm s p e) (h : ¬ (s = 7 ∨ s = 9)) : iv_F cr hc lo hi wa ic se lc2 rm s p e :=
  ⟨I.1, I.2.1, fun z => absurd z h, I.2.2.2⟩
theorem ev_ka (HP : pn_P P p) (pq : p + e = 1) (hN : N + 1 < 2 ^ 31) (VO : pn_VO lo hi ic) (VQ : pn_VQ q) (VN : pn_VN no) (KK : iv_K N ni cr hc se rm w q p e) (es : st p = nI s) (hs9 : s ≤ 9) (Fp : iv_F cr hc lo hi wa ic se lc rm s p e) (et : st e = nI t) (ht9 : t ≤ 9) (Fe : iv_F cr hc lo hi wa ic se lc rm t e p) (hM : ∀ f, f < 7 → ih f = M f) (hs2 : 2 ≤ s) (H : (∀ (C T F K rc : Int32) (st rs ti ni cr hc nk ms ei us dn sa fi lo hi wa ic se lc rm w q ih vd ro no : Nat → Int32), iv_I (N + 1) p e st ni cr hc lo hi wa ic se lc rm w q no → post (C, T, F, K, rc, st, rs, ti, ni, cr, hc, nk, ms, ei, us, dn, sa, fi, lo, hi, wa, ic, se, lc, rm, w, q, ih, vd, ro, no))) : wpX_onKeepalive post (C, T, F, K, rc, st, rs, ti, ni, cr, hc, nk, ms, ei, us, dn, sa, fi, lo, hi, wa, ic, se, lc, rm, w, q, ih, vd, ro, no) P := by
  have hp := pp_lt HP
  have pv := pp_v HP
  obtain ⟨z, hz8, ez⟩ := VQ p hp
  have KN := iv_K_N (Nat.le_succ N) hN KK
  unfold wpX_onKeepalive
  refine ⟨pv, ?_⟩
  rw [pp_n HP]
  refine br_c (fun _ => ?_) (fun _ => ?_)
  · refine br_c (fun _ => ?_) (fun _ => ?_)
    · refine xa_app0 HP VN ez hz8 ?_
      exact H _ _ _ _ _ _ _ _ _ _ _ _ _ _ _ _ _ _ _ _ _ _ _ _ _ _ _ _ _ _ _ (iv_ms VO (pn_VQ_a VQ hp) VN (iv_K_c pq ez hz8 KN (by decide) (by decide)) hs9 Fp es et ht9 Fe)
    · refine br_c (fun _ => ⟨pv, ?_⟩) (fun _ => ?_)
      · refine br_c (fun _ => ⟨pv, nm_e ?_⟩) (fun _ => ?_)
        · exact H _ _ _ _ _ _ _ _ _ _ _ _ _ _ _ _ _ _ _ _ _ _ _ _ _ _ _ _ _ _ _ (iv_ms VO VQ VN KN hs9 Fp es et ht9 Fe)
        · exact H _ _ _ _ _ _ _ _ _ _ _ _ _ _ _ _ _ _ _ _ _ _ _ _ _ _ _ _ _ _ _ (iv_ms VO VQ VN KN hs9 Fp es et ht9 Fe)
      · exact H _ _ _ _ _ _ _ _ _ _ _ _ _ _ _ _ _ _ _ _ _ _ _ _ _ _ _ _ _ _ _ (iv_ms VO VQ VN KN hs9 Fp es et ht9 Fe)
  · exact H _ _ _ _ _ _ _ _ _ _ _ _ _ _ _ _ _ _ _ _ _ _ _ _ _ _ _ _ _ _ _ (iv_ms VO VQ VN KN hs9 Fp es et ht9 Fe)
theorem ev_scj (HP : pn_P P p) (pq : p + e = 1) (hN : N + 1 < 2 ^ 31) (VO : pn_VO lo hi ic) (VQ : pn_VQ q) (VN : pn_VN no) (KK : iv_K N ni cr hc se rm w q p e) (es : st p = nI s) (hs9 : s ≤ 9) (Fp : iv_F cr hc lo hi wa ic se lc rm s p e) (et : st e = nI t) (ht9 : t ≤ 9) (Fe : iv_F cr hc lo hi wa ic se lc rm t e p) (hM : ∀ f, f < 7 → ih f = M f) (hs2 : 2 ≤ s) (H : (∀ (C T F K rc : Int32) (st rs ti ni cr hc nk ms ei us dn sa fi lo hi wa ic se lc rm w q ih vd ro no : Nat → Int32), iv_I (N + 1) p e st ni cr hc lo hi wa ic se lc rm w q no → post (C, T, F, K, rc, st, rs, ti, ni, cr, hc, nk, ms, ei, us, dn, sa, fi, lo, hi, wa, ic, se, lc, rm, w, q, ih, vd, ro, no))) : wpX_sendCodeReject post (C, T, F, K, rc, st, rs, ti, ni, cr, hc, nk, ms, ei, us, dn, sa, fi, lo, hi, wa, ic, se, lc, rm, w, q, ih, vd, ro, no) P := by
  have hp := pp_lt HP
  have pv := pp_v HP
  obtain ⟨z, hz8, ez⟩ := VQ p hp
  have KN := iv_K_N (Nat.le_succ N) hN KK
  refine xa_scj HP VN ez hz8 (hM 0 (by decide)) ?_
  exact H _ _ _ _ _ _ _ _ _ _ _ _ _ _ _ _ _ _ _ _ _ _ _ _ _ _ _ _ _ _ _ (iv_ms VO (pn_VQ_a VQ hp) VN (iv_K_c pq ez hz8 (iv_ni pq hN KK) (by decide) (by decide)) hs9 Fp es et ht9 Fe)
theorem ev_rxp (HP : pn_P P p) (pq : p + e = 1) (hN : N + 1 < 2 ^ 31) (VO : pn_VO lo hi ic) (VQ : pn_VQ q) (VN : pn_VN no) (KK : iv_K N ni cr hc se rm w q p e) (es : st p = nI s) (hs9 : s ≤ 9) (Fp : iv_F cr hc lo hi wa ic se lc rm s p e) (et : st e = nI t) (ht9 : t ≤ 9) (Fe : iv_F cr hc lo hi wa ic se lc rm t e p) (H : (∀ (C T F K rc : Int32) (st rs ti ni cr hc nk ms ei us dn sa fi lo hi wa ic se lc rm w q ih vd ro no : Nat → Int32), iv_I (N + 1) p e st ni cr hc lo hi wa ic se lc rm w q no → post (C, T, F, K, rc, st, rs, ti, ni, cr, hc, nk, ms, ei, us, dn, sa, fi, lo, hi, wa, ic, se, lc, rm, w, q, ih, vd, ro, no))) : wX_onCodeReject_18 post P C T F K rc st rs ti ni cr hc nk ms ei us dn sa fi lo hi wa ic se lc rm w q ih vd ro no := by
  have hp := pp_lt HP
  have pv := pp_v HP
  obtain ⟨z, hz8, ez⟩ := VQ p hp
  have KN := iv_K_N (Nat.le_succ N) hN KK
  unfold wX_onCodeReject_18
  rw [pp_n HP]
  refine ⟨pv, ?_⟩
  by_cases c7 : st p = 7
  · refine br_t c7 ⟨pv, nm_e ?_⟩
    have s7 : s = 7 := by
      rw [es] at c7
      exact (nI_eq (b := 7) (by omega) (by decide)).mp c7
    subst s7
    exact H _ _ _ _ _ _ _ _ _ _ _ _ _ _ _ _ _ _ _ _ _ _ _ _ _ _ _ _ _ _ _ (iv_mk (n := 6) pq VO VQ VN KN (by decide) (iv_F_le Fp (by decide) (by decide) (by decide) (by decide)) et ht9 Fe)
  · refine br_f c7 ?_
    exact H _ _ _ _ _ _ _ _ _ _ _ _ _ _ _ _ _ _ _ _ _ _ _ _ _ _ _ _ _ _ _ (iv_ms VO VQ VN KN hs9 Fp es et ht9 Fe)
theorem ev_cls (HP : pn_P P p) (pq : p + e = 1) (hN : N + 1 < 2 ^ 31) (VO : pn_VO lo hi ic) (VQ : pn_VQ q) (VN : pn_VN no) (KK : iv_K N ni cr hc se rm w q p e) (es : st p = nI s) (hs9 : s ≤ 9) (Fp : iv_F cr hc lo hi wa ic se lc rm s p e) (et : st e = nI t) (ht9 : t ≤ 9) (Fe : iv_F cr hc lo hi wa ic se lc rm t e p) (hM : ∀ f, f < 7 → ih f = M f) (hs2 : 2 ≤ s) (hcp : hc p = M 1) (hA : s = 3 → iv_A lo hi wa ic p) (hq : M 1 = cr e → ∀ k, k < 4 → (fun j => M (3 + j)) k = se (e * 4 + k)) (H : (∀ (C T F K rc : Int32) (st rs ti ni cr hc nk ms ei us dn sa fi lo hi wa ic se lc rm w q ih vd ro no : Nat → Int32), iv_I (N + 1) p e st ni cr hc lo hi wa ic se lc rm w q no → post (C, T, F, K, rc, st, rs, ti, ni, cr, hc, nk, ms, ei, us, dn, sa, fi, lo, hi, wa, ic, se, lc, rm, w, q, ih, vd, ro, no))) : wX_receiveRequest_43 post P C T F K rc st rs ti ni cr hc nk ms ei us dn sa fi lo hi wa ic se lc rm w q ih vd ro no := by
  have hp := pp_lt HP
  unfold wX_receiveRequest_43
  refine xa_class HP hM (fun vd2 ro2 hro => ?_)
  by_cases c2 : pn_C (pn_J lo hi wa ic p M) (nk p) F = 2
  · obtain ⟨cR, cN⟩ := pn_C2.mp c2
    have hro2 : ∀ k, k < 4 → ro2 k = (fun j => M (3 + j)) k := fun k hk => (hro k hk).trans (if_pos c2)
    refine br_t c2 (ev_good HP pq hN VO VQ VN KK es hs9 Fp et ht9 Fe hM hs2 hcp hA hro2 hq ?_ H)
    intro k hk
    have vo := (VO (p * 4 + k) (by omega)).1
    have jj := iv_RN cR cN k hk
    exact iv_jud vo.1 vo.2.1 jj.1 jj.2
  · exact br_f c2 (ev_bad HP pq hN VO VQ VN KK es hs9 Fp et ht9 Fe hM hs2 hcp hA hro pn_C1 c2 H)
theorem ev_req (HP : pn_P P p) (pq : p + e = 1) (hN : N + 1 < 2 ^ 31) (VO : pn_VO lo hi ic) (VQ : pn_VQ q) (VN : pn_VN no) (KK : iv_K N ni cr hc se rm w q p e) (es : st p = nI s) (hs9 : s ≤ 9) (Fp : iv_F cr hc lo hi wa ic se lc rm s p e) (et : st e = nI t) (ht9 : t ≤ 9) (Fe : iv_F cr hc lo hi wa ic se lc rm t e p) (hM : ∀ f, f < 7 → ih f = M f) (hs2 : 2 ≤ s) (m01 : M 0 = 1) (I : iv_m cr hc se rm e p M) (H : (∀ (C T F K rc : Int32) (st rs ti ni cr hc nk ms ei us dn sa fi lo hi wa ic se lc rm w q ih vd ro no : Nat → Int32), iv_I (N + 1) p e st ni cr hc lo hi wa ic se lc rm w q no → post (C, T, F, K, rc, st, rs, ti, ni, cr, hc, nk, ms, ei, us, dn, sa, fi, lo, hi, wa, ic, se, lc, rm, w, q, ih, vd, ro, no))) : wpX_receiveRequest post (C, T, F, K, rc, st, rs, ti, ni, cr, hc, nk, ms, ei, us, dn, sa, fi, lo, hi, wa, ic, se, lc, rm, w, q, ih, vd, ro, no) P := by
  have hp := pp_lt HP
  have pv := pp_v HP
  obtain ⟨z, hz8, ez⟩ := VQ p hp
  have KN := iv_K_N (Nat.le_succ N) hN KK
  unfold wpX_receiveRequest
  refine ⟨pv, ?_⟩
  rw [pp_n HP, hM 1 (by decide)]
  by_cases c : hc p ≤ M 1
  · obtain ⟨K1, Fp1, Fe1, hcp, hq⟩ := iv_hc pq KK Fp Fe I m01 c
    refine br_t c ⟨pv, nm_e ⟨pv, ?_⟩⟩
    by_cases c3 : st p = 3
    · have s3 : s = 3 := by
        rw [es] at c3
        exact (nI_eq (b := 3) (by omega) (by decide)).mp c3
      subst s3
      have S0 := iv_start pq Fe1
      refine br_t c3 (xa_start HP ?_)
      exact ev_cls HP pq hN (pn_VO_in VO) VQ VN K1 es hs9 (iv_F_0 (by decide)) et ht9 S0.2 hM hs2 hcp (fun _ => S0.1) hq H
    · refine br_f c3 ?_
      exact ev_cls HP pq hN VO VQ VN K1 es hs9 Fp1 et ht9 Fe1 hM hs2 hcp (fun z => absurd (by rw [es, z]; rfl) c3) hq H
  · refine br_f c ?_
    exact H _ _ _ _ _ _ _ _ _ _ _ _ _ _ _ _ _ _ _ _ _ _ _ _ _ _ _ _ _ _ _ (iv_ms VO VQ VN KN hs9 Fp es et ht9 Fe)
theorem xs_loc (HP : pn_P P p) {n k : Nat} (hk : k < 4) (h : wX_receiveAck_33 post P C T F K rc n (nI (k + 1)) st rs ti ni cr hc nk ms ei us dn sa fi lo hi wa ic se (upd lc (p * 4 + k) (se (p * 4 + k))) rm w q ih vd ro no) : wX_receiveAck_33 post P C T F K rc (n + 1) (nI k) st rs ti ni cr hc nk ms ei us dn sa fi lo hi wa ic se lc rm w q ih vd ro no := by
  refine br_f (pp_g4 hk) ?_
  rw [pp_4 HP hk]
  exact ⟨pp_v4 HP hk, pp_v4 HP hk, nm_e (nm_r (nI_1 k) h)⟩
theorem xa_loc (HP : pn_P P p) (h : wX_receiveAck_64 post P C T F K rc st rs ti ni cr hc nk ms ei us dn sa fi lo hi wa ic se (pn_4 lc (p * 4) (fun k => se (p * 4 + k))) rm w q ih vd ro no) : ∃ n, wX_receiveAck_33 post P C T F K rc n 0 st rs ti ni cr hc nk ms ei us dn sa fi lo hi wa ic se lc rm w q ih vd ro no :=
  ⟨5, xs_loc HP (k := 0) (by decide) (xs_loc HP (k := 1) (by decide) (xs_loc HP (k := 2) (by decide) (xs_loc HP (k := 3) (by decide) (br_t pp_44 h))))⟩
theorem ev_rack (HP : pn_P P p) (pq : p + e = 1) (hN : N + 1 < 2 ^ 31) (VO : pn_VO lo hi ic) (VQ : pn_VQ q) (VN : pn_VN no) (KK : iv_K N ni cr hc se rm w q p e) (es : st p = nI s) (hs9 : s ≤ 9) (Fp : iv_F cr hc lo hi wa ic se lc rm s p e) (et : st e = nI t) (ht9 : t ≤ 9) (Fe : iv_F cr hc lo hi wa ic se lc rm t e p) (hM : ∀ f, f < 7 → ih f = M f) (hs2 : 2 ≤ s) (m02 : M 0 = 2) (I : iv_m cr hc se rm e p M) (H : (∀ (C T F K rc : Int32) (st rs ti ni cr hc nk ms ei us dn sa fi lo hi wa ic se lc rm w q ih vd ro no : Nat → Int32), iv_I (N + 1) p e st ni cr hc lo hi wa ic se lc rm w q no → post (C, T, F, K, rc, st, rs, ti, ni, cr, hc, nk, ms, ei, us, dn, sa, fi, lo, hi, wa, ic, se, lc, rm, w, q, ih, vd, ro, no))) : wpX_receiveAck post (C, T, F, K, rc, st, rs, ti, ni, cr, hc, nk, ms, ei, us, dn, sa, fi, lo, hi, wa, ic, se, lc, rm, w, q, ih, vd, ro, no) P := by
  have hp := pp_lt HP
  have pv := pp_v HP
  obtain ⟨z, hz8, ez⟩ := VQ p hp
  have KN := iv_K_N (Nat.le_succ N) hN KK
  unfold wpX_receiveAck
  refine xa_vA HP hM ?_
  by_cases c0 : pn_gA M se p (if M 1 = cr p then 1 else 0) = 0
  · refine br_t c0 ?_
    exact H _ _ _ _ _ _ _ _ _ _ _ _ _ _ _ _ _ _ _ _ _ _ _ _ _ _ _ _ _ _ _ (iv_ms VO VQ VN KN hs9 Fp es et ht9 Fe)
  · have m1 : M 1 = cr p := by
      by_cases c : M 1 = cr p
      · exact c
      · exact absurd (if_neg c) (iv_gA c0)
    have S := iv_lc pq KK Fe I m02 m1
    refine br_f c0 ⟨pv, ?_⟩
    rw [pp_n HP]
    have go : (s = 6 ∨ s = 8) → wX_receiveAck_64 post P C T F K rc st rs ti ni cr hc nk ms ei us dn sa fi lo hi wa ic se (pn_4 lc (p * 4) (fun k => se (p * 4 + k))) rm w q ih vd ro no := by
      intro h68
      unfold wX_receiveAck_64
      exact ev_ack HP pq hN VO VQ VN KK es hs9 (iv_F_lc Fp (by omega)) et ht9 S.2 hM hs2 (fun _ => S.1) H
    by_cases c6 : st p = 6
    · have s6 : s = 6 := by
        rw [es] at c6
        exact (nI_eq (b := 6) (by omega) (by decide)).mp c6
      exact br_t c6 (xa_loc HP (go (Or.inl s6)))
    · refine br_f c6 ⟨pv, ?_⟩
      by_cases c8 : st p = 8
      · have s8 : s = 8 := by
          rw [es] at c8
          exact (nI_eq (b := 8) (by omega) (by decide)).mp c8
        exact br_t c8 (xa_loc HP (go (Or.inr s8)))
      · refine br_f c8 ?_
        unfold wX_receiveAck_64
        refine ev_ack HP pq hN VO VQ VN KK es hs9 Fp et ht9 Fe hM hs2 (fun zz => ?_) H
        rcases zz with zz | zz
        · exact absurd (by rw [es, zz]; rfl) c6
        · exact absurd (by rw [es, zz]; rfl) c8
theorem rv_all (HP : pn_P P p) (pq : p + e = 1) (hN : N + 1 < 2 ^ 31) (VO : pn_VO lo hi ic) (VQ : pn_VQ q) (VN : pn_VN no) (KK : iv_K N ni cr hc se rm w q p e) (es : st p = nI s) (hs9 : s ≤ 9) (Fp : iv_F cr hc lo hi wa ic se lc rm s p e) (et : st e = nI t) (ht9 : t ≤ 9) (Fe : iv_F cr hc lo hi wa ic se lc rm t e p) (hM : ∀ f, f < 7 → ih f = M f) (hs2 : 2 ≤ s) (I : iv_m cr hc se rm e p M) (H : (∀ (C T F K rc : Int32) (st rs ti ni cr hc nk ms ei us dn sa fi lo hi wa ic se lc rm w q ih vd ro no : Nat → Int32), iv_I (N + 1) p e st ni cr hc lo hi wa ic se lc rm w q no → post (C, T, F, K, rc, st, rs, ti, ni, cr, hc, nk, ms, ei, us, dn, sa, fi, lo, hi, wa, ic, se, lc, rm, w, q, ih, vd, ro, no))) : wpX_receive post (C, T, F, K, rc, st, rs, ti, ni, cr, hc, nk, ms, ei, us, dn, sa, fi, lo, hi, wa, ic, se, lc, rm, w, q, ih, vd, ro, no) P := by
  have hp := pp_lt HP
  have pv := pp_v HP
  obtain ⟨z, hz8, ez⟩ := VQ p hp
  have KN := iv_K_N (Nat.le_succ N) hN KK
  have x0 := hM 0 (by decide)
  have hh := pn_codes (M 0)
  unfold wpX_receive
  rcases hh with c | c | c | c | c | c | c | c | c | c | c | c | c
  · refine nm_e (br_t (by rw [x0]; exact c) ?_)
    unfold wX_receive_144
    exact ev_scj HP pq hN VO VQ VN KK es hs9 Fp et ht9 Fe hM hs2 H
  · refine nm_e (br_f (by rw [x0]; exact pn_gt1 c) (br_t (by rw [x0]; exact c) ?_))
    unfold wX_receive_144
    exact ev_scj HP pq hN VO VQ VN KK es hs9 Fp et ht9 Fe hM hs2 H
  · refine nm_e ?_
    rw [x0, c]
    refine (br_f (by decide) (br_f (by decide) (br_t (by decide) ?_)))
    exact ev_req HP pq hN VO VQ VN KK es hs9 Fp et ht9 Fe hM hs2 c I H
  · refine nm_e ?_
    rw [x0, c]
    refine (br_f (by decide) (br_f (by decide) (br_f (by decide) (br_t (by decide) ?_))))
    exact ev_rack HP pq hN VO VQ VN KK es hs9 Fp et ht9 Fe hM hs2 c I H
  · refine nm_e ?_
    rw [x0, c]
    refine (br_f (by decide) (br_f (by decide) (br_f (by decide) (br_f (by decide) (br_t (by decide) ?_)))))
    refine xa_vN HP hM ?_
    refine br_c (fun _ => ?_) (fun _ => ?_)
    · exact H _ _ _ _ _ _ _ _ _ _ _ _ _ _ _ _ _ _ _ _ _ _ _ _ _ _ _ _ _ _ _ (iv_ms VO VQ VN KN hs9 Fp es et ht9 Fe)
    · exact ev_ref HP pq hN VO VQ VN KK es hs9 Fp et ht9 Fe hM hs2 H
  · refine nm_e ?_
    rw [x0, c]
    refine (br_f (by decide) (br_f (by decide) (br_f (by decide) (br_f (by decide) (br_f (by decide) (br_t (by decide) ?_))))))
    refine xa_vR HP hM ?_
    refine br_c (fun _ => ?_) (fun _ => ?_)
    · exact H _ _ _ _ _ _ _ _ _ _ _ _ _ _ _ _ _ _ _ _ _ _ _ _ _ _ _ _ _ _ _ (iv_ms VO VQ VN KN hs9 Fp es et ht9 Fe)
    · exact ev_ref HP pq hN VO VQ VN KK es hs9 Fp et ht9 Fe hM hs2 H
  · refine nm_e ?_
    rw [x0, c]
    refine (br_f (by decide) (br_f (by decide) (br_f (by decide) (br_f (by decide) (br_f (by decide) (br_f (by decide) (br_t (by decide) ?_)))))))
    exact ev_rtr HP pq hN VO VQ VN KK es hs9 Fp et ht9 Fe hM hs2 H
  · refine nm_e ?_
    rw [x0, c]
    refine (br_f (by decide) (br_f (by decide) (br_f (by decide) (br_f (by decide) (br_f (by decide) (br_f (by decide) (br_f (by decide) (br_t (by decide) ?_))))))))
    exact ev_rta HP pq hN VO VQ VN KK es hs9 Fp et ht9 Fe hM hs2 H
  · refine nm_e ?_
    rw [x0, c]
    refine (br_f (by decide) (br_f (by decide) (br_f (by decide) (br_f (by decide) (br_f (by decide) (br_f (by decide) (br_f (by decide) (br_f (by decide) (br_t (by decide) ?_)))))))))
    have x2 := hM 2 (by decide)
    by_cases b1 : M 2 < 1
    · unfold wpX_onCodeReject
      refine nm_e (br_t (by rw [x2]; exact b1) ?_)
      exact ev_rxp HP pq hN VO VQ VN KK es hs9 Fp et ht9 Fe H
    · by_cases b7 : M 2 ≤ 7
      · exact ev_rxj HP pq hN VO VQ VN KK es hs9 Fp et ht9 Fe hM hs2 b1 b7 H
      · unfold wpX_onCodeReject
        refine nm_e (br_f (by rw [x2]; exact b1) (br_f (by rw [x2]; exact b7) ?_))
        exact ev_rxp HP pq hN VO VQ VN KK es hs9 Fp et ht9 Fe H
  · refine nm_e ?_
    rw [x0, c]
    refine (br_f (by decide) (br_f (by decide) (br_f (by decide) (br_f (by decide) (br_f (by decide) (br_f (by decide) (br_f (by decide) (br_f (by decide) (br_f (by decide) (br_t (by decide) ?_))))))))))
    unfold wX_receive_144
    exact ev_scj HP pq hN VO VQ VN KK es hs9 Fp et ht9 Fe hM hs2 H
  · refine nm_e ?_
    rw [x0, c]
    refine (br_f (by decide) (br_f (by decide) (br_f (by decide) (br_f (by decide) (br_f (by decide) (br_f (by decide) (br_f (by decide) (br_f (by decide) (br_f (by decide) (br_f (by decide) (br_t (by decide) ?_)))))))))))
    unfold wX_receive_136
    exact ev_ka HP pq hN VO VQ VN KK es hs9 Fp et ht9 Fe hM hs2 H
  · refine nm_e ?_
    rw [x0, c]
    refine (br_f (by decide) (br_f (by decide) (br_f (by decide) (br_f (by decide) (br_f (by decide) (br_f (by decide) (br_f (by decide) (br_f (by decide) (br_f (by decide) (br_f (by decide) (br_f (by decide) (br_t (by decide) ?_))))))))))))
    unfold wX_receive_136
    exact ev_ka HP pq hN VO VQ VN KK es hs9 Fp et ht9 Fe hM hs2 H
  · refine nm_e ?_
    rw [x0, c]
    refine (br_f (by decide) (br_f (by decide) (br_f (by decide) (br_f (by decide) (br_f (by decide) (br_f (by decide) (br_f (by decide) (br_f (by decide) (br_f (by decide) (br_f (by decide) (br_f (by decide) (br_f (by decide) (br_t (by decide) ?_)))))))))))))
    unfold wX_receive_136
    exact ev_ka HP pq hN VO VQ VN KK es hs9 Fp et ht9 Fe hM hs2 H
end RV
end
section
theorem pn_i4 {o : Int32} : 3 < o ↔ 4 ≤ o := by
  have a : (3 : Int32).toInt = 3 := by decide
  have b : (4 : Int32).toInt = 4 := by decide
  rw [Int32.lt_iff_toInt_lt, Int32.le_iff_toInt_le, a, b]
  omega
theorem pn_34 {o : Int32} (h : ¬ 4 ≤ o) : ¬ 3 < o := fun z => h (pn_i4.mp z)
theorem pp_n2 {P : Int32} {p : Nat} (H : pn_P P p) : ¬ 2 ≤ P := by
  rcases H with ⟨rfl, rfl⟩ | ⟨rfl, rfl⟩ <;> decide
theorem pn_VQ_d {q : Nat → Int32} {p s : Nat} (V : pn_VQ q) (hs : s ≤ 8) : pn_VQ (upd q p (nI s)) := by
  intro j hj
  by_cases e : j = p
  · exact ⟨s, hs, by rw [e, pn_at]⟩
  · rw [pn_ne _ _ e]; exact V j hj
theorem pn_VO_r {lo hi ic : Nat → Int32} {i : Nat} {a b : Int32} (V : pn_VO lo hi ic) (ha : 0 ≤ a) (hb : 0 ≤ b ∧ b ≤ 65535) : pn_VO (upd lo i a) (upd hi i b) ic := by
  intro j hj
  refine ⟨?_, (V j hj).2⟩
  by_cases e : j = i
  · rw [e, pn_at, pn_at]; exact ⟨ha, hb.1, hb.2⟩
  · rw [pn_ne _ _ e, pn_ne _ _ e]; exact (V j hj).1
theorem pn_cl_r (v : Int32) : 0 ≤ pn_cl v 0 65535 ∧ pn_cl v 0 65535 ≤ 65535 := by
  unfold pn_cl
  by_cases h1 : 0 ≤ v
  · rw [if_pos h1]
    by_cases h2 : v ≤ 65535
    · rw [if_pos h2]; exact ⟨h1, h2⟩
    · rw [if_neg h2]; decide
  · rw [if_neg h1]; decide
section OP
variable {C T F K rc : Int32} {st rs ti ni cr hc nk ms ei us dn sa fi lo hi wa ic se lc rm w q ih vd ro no : Nat → Int32} {P : Int32} {p : Nat} {post : St2 → Prop}
variable {post1 : Int32 → Prop} {post3 : Int32 → St2 → Prop} {N e n : Nat} {R : Int32}
theorem iv_I_N {M : Nat} (hNM : N ≤ M) (hM : M < 2 ^ 31) (I : iv_I N p e st ni cr hc lo hi wa ic se lc rm w q no) : iv_I M p e st ni cr hc lo hi wa ic se lc rm w q no :=
  ⟨I.1, I.2.1, I.2.2.1, iv_K_N hNM hM I.2.2.2.1, I.2.2.2.2⟩
theorem iv_I_s (I : iv_I N p e st ni cr hc lo hi wa ic se lc rm w q no) : iv_I N e p st ni cr hc lo hi wa ic se lc rm w q no := by
  obtain ⟨VO, VQ, VN, KK, s, t, hs9, ht9, es, et, Fp, Fe⟩ := I
  exact ⟨VO, VQ, VN, iv_K_sw KK, t, s, ht9, hs9, et, es, Fe, Fp⟩
theorem xa_has1 (HP : pn_P P p) {s : Nat} (hs : q p = nI (s + 1)) (hs8 : s + 1 ≤ 8) (h : post1 1) : wpX_hasMessage post1 (C, T, F, K, rc, st, rs, ti, ni, cr, hc, nk, ms, ei, us, dn, sa, fi, lo, hi, wa, ic, se, lc, rm, w, q, ih, vd, ro, no) P := by
  unfold wpX_hasMessage
  refine xa_end1 HP (br_f (by decide) ⟨pp_v HP, ?_⟩)
  rw [pp_n HP, hs]
  exact br_f (nI_nle (by omega) (by omega)) h
theorem xa_has0 (HP : pn_P P p) (hs : q p = nI 0) (h : post1 0) : wpX_hasMessage post1 (C, T, F, K, rc, st, rs, ti, ni, cr, hc, nk, ms, ei, us, dn, sa, fi, lo, hi, wa, ic, se, lc, rm, w, q, ih, vd, ro, no) P := by
  unfold wpX_hasMessage
  refine xa_end1 HP (br_f (by decide) ⟨pp_v HP, ?_⟩)
  rw [pp_n HP, hs]
  exact br_t (by decide) h
theorem xa_hasE {v : Int32} (h0 : ¬ v = 0) (h1 : ¬ v = 1) (h : post1 0) : wpX_hasMessage post1 (C, T, F, K, rc, st, rs, ti, ni, cr, hc, nk, ms, ei, us, dn, sa, fi, lo, hi, wa, ic, se, lc, rm, w, q, ih, vd, ro, no) v := by
  unfold wpX_hasMessage
  exact xa_end0 h0 h1 (br_t rfl h)
theorem oq_open (HP : pn_P P p) (pq : p + e = 1) (hN : N + 2 < 2 ^ 31) (I : iv_I N p e st ni cr hc lo hi wa ic se lc rm w q no) (H : ∀ (r C T F K rc : Int32) (st rs ti ni cr hc nk ms ei us dn sa fi lo hi wa ic se lc rm w q ih vd ro no : Nat → Int32), iv_I (N + 2) p e st ni cr hc lo hi wa ic se lc rm w q no → post3 r (C, T, F, K, rc, st, rs, ti, ni, cr, hc, nk, ms, ei, us, dn, sa, fi, lo, hi, wa, ic, se, lc, rm, w, q, ih, vd, ro, no)) : wpX_open post3 (C, T, F, K, rc, st, rs, ti, ni, cr, hc, nk, ms, ei, us, dn, sa, fi, lo, hi, wa, ic, se, lc, rm, w, q, ih, vd, ro, no) P := by
  obtain ⟨VO, VQ, VN, KK, s, t, hs9, ht9, es, et, Fp, Fe⟩ := I
  have hp := pp_lt HP
  have pv := pp_v HP
  obtain ⟨z, hz8, ez⟩ := VQ p hp
  unfold wpX_open
  refine xa_end1 HP (br_f (by decide) ?_)
  refine ev_open HP pq (by omega) VO VQ VN KK es hs9 Fp et ht9 Fe ?_
  intro C1 T1 F1 K1 rc1 st1 rs1 ti1 ni1 cr1 hc1 nk1 ms1 ei1 us1 dn1 sa1 fi1 lo1 hi1 wa1 ic1 se1 lc1 rm1 w1 q1 ih1 vd1 ro1 no1 I1
  refine xa_setl HP ?_
  exact H _ _ _ _ _ _ _ _ _ _ _ _ _ _ _ _ _ _ _ _ _ _ _ _ _ _ _ _ _ _ _ _ (iv_I_N (by omega) hN I1)
theorem oq_close (HP : pn_P P p) (pq : p + e = 1) (hN : N + 2 < 2 ^ 31) (I : iv_I N p e st ni cr hc lo hi wa ic se lc rm w q no) (H : ∀ (r C T F K rc : Int32) (st rs ti ni cr hc nk ms ei us dn sa fi lo hi wa ic se lc rm w q ih vd ro no : Nat → Int32), iv_I (N + 2) p e st ni cr hc lo hi wa ic se lc rm w q no → post3 r (C, T, F, K, rc, st, rs, ti, ni, cr, hc, nk, ms, ei, us, dn, sa, fi, lo, hi, wa, ic, se, lc, rm, w, q, ih, vd, ro, no)) : wpX_close post3 (C, T, F, K, rc, st, rs, ti, ni, cr, hc, nk, ms, ei, us, dn, sa, fi, lo, hi, wa, ic, se, lc, rm, w, q, ih, vd, ro, no) P := by
  obtain ⟨VO, VQ, VN, KK, s, t, hs9, ht9, es, et, Fp, Fe⟩ := I
  have hp := pp_lt HP
  have pv := pp_v HP
  obtain ⟨z, hz8, ez⟩ := VQ p hp
  unfold wpX_close
  refine xa_end1 HP (br_f (by decide) ?_)
  refine ev_close HP pq (by omega) VO VQ VN KK es hs9 Fp et ht9 Fe ?_
  intro C1 T1 F1 K1 rc1 st1 rs1 ti1 ni1 cr1 hc1 nk1 ms1 ei1 us1 dn1 sa1 fi1 lo1 hi1 wa1 ic1 se1 lc1 rm1 w1 q1 ih1 vd1 ro1 no1 I1
  refine xa_setl HP ?_
  exact H _ _ _ _ _ _ _ _ _ _ _ _ _ _ _ _ _ _ _ _ _ _ _ _ _ _ _ _ _ _ _ _ (iv_I_N (by omega) hN I1)
theorem ev_up (HP : pn_P P p) (pq : p + e = 1) (hN : N + 1 < 2 ^ 31) (I : iv_I N p e st ni cr hc lo hi wa ic se lc rm w q no) (H : ∀ (C T F K rc : Int32) (st rs ti ni cr hc nk ms ei us dn sa fi lo hi wa ic se lc rm w q ih vd ro no : Nat → Int32), iv_I (N + 1) p e st ni cr hc lo hi wa ic se lc rm w q no → post (C, T, F, K, rc, st, rs, ti, ni, cr, hc, nk, ms, ei, us, dn, sa, fi, lo, hi, wa, ic, se, lc, rm, w, q, ih, vd, ro, no)) : wpX_onUp post (C, T, F, K, rc, st, rs, ti, ni, cr, hc, nk, ms, ei, us, dn, sa, fi, lo, hi, wa, ic, se, lc, rm, w, q, ih, vd, ro, no) P := by
  obtain ⟨VO, VQ, VN, KK, s, t, hs9, ht9, es, et, Fp, Fe⟩ := I
  have hp := pp_lt HP
  have pv := pp_v HP
  obtain ⟨z, hz8, ez⟩ := VQ p hp
  have KN := iv_K_N (Nat.le_succ N) hN KK
  unfold wpX_onUp
  refine ⟨pv, ?_⟩
  rw [pp_n HP]
  by_cases e0 : st p = 0
  · refine br_t e0 ⟨pv, nm_e ?_⟩
    exact H _ _ _ _ _ _ _ _ _ _ _ _ _ _ _ _ _ _ _ _ _ _ _ _ _ _ _ _ _ _ _ (iv_mk (n := 2) pq VO VQ VN KN (by decide) (iv_F_0 (by decide)) et ht9 Fe)
  · refine br_f e0 ⟨pv, ?_⟩
    by_cases e1 : st p = 1
    · refine br_t e1 (xa_breq HP ez hz8 ?_)
      have S0 := iv_start (d := p) pq Fe
      have S1 := iv_scr (d := p) pq ez hz8 hN KK S0.1 S0.2
      exact H _ _ _ _ _ _ _ _ _ _ _ _ _ _ _ _ _ _ _ _ _ _ _ _ _ _ _ _ _ _ _ (iv_mk (n := 6) pq (pn_VO_in VO) (pn_VQ_a VQ hp) VN S1.1 (by decide) S1.2.1 et ht9 S1.2.2)
    · refine br_f e1 ?_
      exact H _ _ _ _ _ _ _ _ _ _ _ _ _ _ _ _ _ _ _ _ _ _ _ _ _ _ _ _ _ _ _ (iv_ms VO VQ VN KN hs9 Fp es et ht9 Fe)
theorem oq_up (HP : pn_P P p) (pq : p + e = 1) (hN : N + 2 < 2 ^ 31) (I : iv_I N p e st ni cr hc lo hi wa ic se lc rm w q no) (H : ∀ (r C T F K rc : Int32) (st rs ti ni cr hc nk ms ei us dn sa fi lo hi wa ic se lc rm w q ih vd ro no : Nat → Int32), iv_I (N + 2) p e st ni cr hc lo hi wa ic se lc rm w q no → post3 r (C, T, F, K, rc, st, rs, ti, ni, cr, hc, nk, ms, ei, us, dn, sa, fi, lo, hi, wa, ic, se, lc, rm, w, q, ih, vd, ro, no)) : wpX_up post3 (C, T, F, K, rc, st, rs, ti, ni, cr, hc, nk, ms, ei, us, dn, sa, fi, lo, hi, wa, ic, se, lc, rm, w, q, ih, vd, ro, no) P := by
  have pv := pp_v HP
  unfold wpX_up
  refine xa_end1 HP (br_f (by decide) ⟨pv, br_c (fun _ => ?_) (fun _ => ?_)⟩)
  · refine ev_up HP pq (by omega) I ?_
    intro C1 T1 F1 K1 rc1 st1 rs1 ti1 ni1 cr1 hc1 nk1 ms1 ei1 us1 dn1 sa1 fi1 lo1 hi1 wa1 ic1 se1 lc1 rm1 w1 q1 ih1 vd1 ro1 no1 I1
    refine xa_setl HP ?_
    exact H _ _ _ _ _ _ _ _ _ _ _ _ _ _ _ _ _ _ _ _ _ _ _ _ _ _ _ _ _ _ _ _ (iv_I_N (by omega) hN I1)
  · exact H _ _ _ _ _ _ _ _ _ _ _ _ _ _ _ _ _ _ _ _ _ _ _ _ _ _ _ _ _ _ _ _ (iv_I_N (by omega) hN I)
theorem oq_down (HP : pn_P P p) (pq : p + e = 1) (hN : N + 2 < 2 ^ 31) (I : iv_I N p e st ni cr hc lo hi wa ic se lc rm w q no) (H : ∀ (r C T F K rc : Int32) (st rs ti ni cr hc nk ms ei us dn sa fi lo hi wa ic se lc rm w q ih vd ro no : Nat → Int32), iv_I (N + 2) p e st ni cr hc lo hi wa ic se lc rm w q no → post3 r (C, T, F, K, rc, st, rs, ti, ni, cr, hc, nk, ms, ei, us, dn, sa, fi, lo, hi, wa, ic, se, lc, rm, w, q, ih, vd, ro, no)) : wpX_down post3 (C, T, F, K, rc, st, rs, ti, ni, cr, hc, nk, ms, ei, us, dn, sa, fi, lo, hi, wa, ic, se, lc, rm, w, q, ih, vd, ro, no) P := by
  have I0 := I
  obtain ⟨VO, VQ, VN, KK, s, t, hs9, ht9, es, et, Fp, Fe⟩ := I
  have hp := pp_lt HP
  have pv := pp_v HP
  obtain ⟨z, hz8, ez⟩ := VQ p hp
  unfold wpX_down
  refine xa_end1 HP (br_f (by decide) ⟨pv, br_c (fun _ => ?_) (fun _ => ?_)⟩)
  · refine ev_down HP pq (by omega) VO VQ VN KK es hs9 Fp et ht9 Fe ?_
    intro C1 T1 F1 K1 rc1 st1 rs1 ti1 ni1 cr1 hc1 nk1 ms1 ei1 us1 dn1 sa1 fi1 lo1 hi1 wa1 ic1 se1 lc1 rm1 w1 q1 ih1 vd1 ro1 no1 I1
    refine xa_setl HP ?_
    exact H _ _ _ _ _ _ _ _ _ _ _ _ _ _ _ _ _ _ _ _ _ _ _ _ _ _ _ _ _ _ _ _ (iv_I_N (by omega) hN I1)
  · exact H _ _ _ _ _ _ _ _ _ _ _ _ _ _ _ _ _ _ _ _ _ _ _ _ _ _ _ _ _ _ _ _ (iv_I_N (by omega) hN I0)
theorem tk_one (HP : pn_P P p) (pq : p + e = 1) (hN : N + 1 < 2 ^ 31) (eN : P + 1 = R) (I : iv_I N p e st ni cr hc lo hi wa ic se lc rm w q no) (H : ∀ (C T F K rc : Int32) (st rs ti ni cr hc nk ms ei us dn sa fi lo hi wa ic se lc rm w q ih vd ro no : Nat → Int32), iv_I (N + 1) p e st ni cr hc lo hi wa ic se lc rm w q no → wX_tick_2 post n R C T F K rc st rs ti ni cr hc nk ms ei us dn sa fi lo hi wa ic se lc rm w q ih vd ro no) : wX_tick_2 post (n + 1) P C T F K rc st rs ti ni cr hc nk ms ei us dn sa fi lo hi wa ic se lc rm w q ih vd ro no := by
  have IN1 := iv_I_N (Nat.le_succ N) hN I
  obtain ⟨VO, VQ, VN, KK, s, t, hs9, ht9, es, et, Fp, Fe⟩ := I
  have hp := pp_lt HP
  have pv := pp_v HP
  obtain ⟨z, hz8, ez⟩ := VQ p hp
  refine br_f (pp_n2 HP) ?_
  by_cases h4 : st p < 4
  · exact xa_timed0 HP (Or.inl h4) (br_t rfl (nm_r eN (H _ _ _ _ _ _ _ _ _ _ _ _ _ _ _ _ _ _ _ _ _ _ _ _ _ _ _ _ _ _ _ IN1)))
  by_cases h8 : 8 < st p
  · exact xa_timed0 HP (Or.inr ⟨h4, h8⟩) (br_t rfl (nm_r eN (H _ _ _ _ _ _ _ _ _ _ _ _ _ _ _ _ _ _ _ _ _ _ _ _ _ _ _ _ _ _ _ IN1)))
  have hs4 : 4 ≤ s := Nat.le_of_not_lt (fun z => h4 (by rw [es]; exact nI_lt (b := 4) z (by decide)))
  have hs8 : s ≤ 8 := Nat.le_of_not_lt (fun z => h8 (by rw [es]; exact nI_lt (a := 8) z (by omega)))
  refine xa_timed1 HP h4 h8 (br_f (by decide) ⟨pv, br_c (fun _ => nm_r eN (H _ _ _ _ _ _ _ _ _ _ _ _ _ _ _ _ _ _ _ _ _ _ _ _ _ _ _ _ _ _ _ IN1)) (fun _ => ⟨pv, pv, nm_e ⟨pv, br_c (fun _ => ?_) (fun _ => nm_r eN (H _ _ _ _ _ _ _ _ _ _ _ _ _ _ _ _ _ _ _ _ _ _ _ _ _ _ _ _ _ _ _ IN1))⟩⟩)⟩)
  by_cases hr : 0 < rs p
  · refine ev_top HP pq hN VO VQ VN KK es hs9 Fp et ht9 Fe hr hs4 hs8 ?_
    intro C1 T1 F1 K1 rc1 st1 rs1 ti1 ni1 cr1 hc1 nk1 ms1 ei1 us1 dn1 sa1 fi1 lo1 hi1 wa1 ic1 se1 lc1 rm1 w1 q1 ih1 vd1 ro1 no1 I1
    exact xa_setl HP (nm_r eN (H _ _ _ _ _ _ _ _ _ _ _ _ _ _ _ _ _ _ _ _ _ _ _ _ _ _ _ _ _ _ _ I1))
  · refine ev_tom HP pq hN VO VQ VN KK es hs9 Fp et ht9 Fe hr hs4 hs8 ?_
    intro C1 T1 F1 K1 rc1 st1 rs1 ti1 ni1 cr1 hc1 nk1 ms1 ei1 us1 dn1 sa1 fi1 lo1 hi1 wa1 ic1 se1 lc1 rm1 w1 q1 ih1 vd1 ro1 no1 I1
    exact xa_setl HP (nm_r eN (H _ _ _ _ _ _ _ _ _ _ _ _ _ _ _ _ _ _ _ _ _ _ _ _ _ _ _ _ _ _ _ I1))
theorem oq_tick (hN : N + 2 < 2 ^ 31) (I : iv_I N 0 1 st ni cr hc lo hi wa ic se lc rm w q no) (H : ∀ (C T F K rc : Int32) (st rs ti ni cr hc nk ms ei us dn sa fi lo hi wa ic se lc rm w q ih vd ro no : Nat → Int32), iv_I (N + 2) 0 1 st ni cr hc lo hi wa ic se lc rm w q no → post (C, T, F, K, rc, st, rs, ti, ni, cr, hc, nk, ms, ei, us, dn, sa, fi, lo, hi, wa, ic, se, lc, rm, w, q, ih, vd, ro, no)) : wpX_tick post (C, T, F, K, rc, st, rs, ti, ni, cr, hc, nk, ms, ei, us, dn, sa, fi, lo, hi, wa, ic, se, lc, rm, w, q, ih, vd, ro, no) := by
  unfold wpX_tick
  refine ⟨3, tk_one pp_0 (by decide) (by omega) (R := 1) (by decide) I ?_⟩
  intro C1 T1 F1 K1 rc1 st1 rs1 ti1 ni1 cr1 hc1 nk1 ms1 ei1 us1 dn1 sa1 fi1 lo1 hi1 wa1 ic1 se1 lc1 rm1 w1 q1 ih1 vd1 ro1 no1 I1
  refine tk_one pp_1 (by decide) (by omega) (R := 2) (by decide) (iv_I_s I1) ?_
  intro C2 T2 F2 K2 rc2 st2 rs2 ti2 ni2 cr2 hc2 nk2 ms2 ei2 us2 dn2 sa2 fi2 lo2 hi2 wa2 ic2 se2 lc2 rm2 w2 q2 ih2 vd2 ro2 no2 I2
  exact br_t (by decide) (H _ _ _ _ _ _ _ _ _ _ _ _ _ _ _ _ _ _ _ _ _ _ _ _ _ _ _ _ _ _ _ (iv_I_s I2))
theorem iv_I_tk (pq : p + e = 1) {s : Nat} (hs : q p = nI (s + 1)) (hs8 : s + 1 ≤ 8) (I : iv_I N p e st ni cr hc lo hi wa ic se lc rm w q no) : iv_I N p e st ni cr hc lo hi wa ic se lc rm (pn_sh w (p * 56) (s * 7)) (upd q p (nI s)) no ∧ iv_m cr hc se rm p e (fun f => w (p * 56 + f)) := by
  obtain ⟨VO, VQ, VN, KK, X⟩ := I
  have T := iv_K_tk pq hs hs8 KK
  exact ⟨⟨VO, pn_VQ_d VQ (by omega), VN, T.1, X⟩, T.2⟩
theorem iv_I_ap (pq : p + e = 1) (hp : p < 2) {s : Nat} {c i d x0 x1 x2 x3 : Int32} (hs : q p = nI s) (hs8 : s ≤ 8) (I : iv_I N p e st ni cr hc lo hi wa ic se lc rm w q no) (hm : iv_m cr hc se rm p e (pn_m c i d x0 x1 x2 x3)) : iv_I N p e st ni cr hc lo hi wa ic se lc rm (pn_aw w q p c i d x0 x1 x2 x3) (pn_aq q p) no := by
  obtain ⟨VO, VQ, VN, KK, X⟩ := I
  exact ⟨VO, pn_VQ_a VQ hp, VN, iv_K_app pq hs hs8 KK hm, X⟩
theorem iv_m_7 {m : Nat → Int32} (I : iv_m cr hc se rm p e m) : iv_m cr hc se rm p e (pn_m (m 0) (m 1) (m 2) (m (3 + 0)) (m (3 + 1)) (m (3 + 2)) (m (3 + 3))) := by
  refine iv_m_x ?_ I
  intro f hf
  have h : f = 0 ∨ f = 1 ∨ f = 2 ∨ f = 3 ∨ f = 4 ∨ f = 5 ∨ f = 6 := by omega
  rcases h with rfl | rfl | rfl | rfl | rfl | rfl | rfl <;> rfl
theorem oq_drop (HP : pn_P P p) (pq : p + e = 1) (hN : N + 2 < 2 ^ 31) (I : iv_I N p e st ni cr hc lo hi wa ic se lc rm w q no) (H : ∀ (r C T F K rc : Int32) (st rs ti ni cr hc nk ms ei us dn sa fi lo hi wa ic se lc rm w q ih vd ro no : Nat → Int32), iv_I (N + 2) p e st ni cr hc lo hi wa ic se lc rm w q no → post3 r (C, T, F, K, rc, st, rs, ti, ni, cr, hc, nk, ms, ei, us, dn, sa, fi, lo, hi, wa, ic, se, lc, rm, w, q, ih, vd, ro, no)) : wpX_drop post3 (C, T, F, K, rc, st, rs, ti, ni, cr, hc, nk, ms, ei, us, dn, sa, fi, lo, hi, wa, ic, se, lc, rm, w, q, ih, vd, ro, no) P := by
  have hp := pp_lt HP
  obtain ⟨z, hz8, ez⟩ := I.2.1 p hp
  have hcase : z = 0 ∨ ∃ s, z = s + 1 := by
    rcases Nat.eq_zero_or_pos z with h | h
    · exact Or.inl h
    · exact Or.inr ⟨z - 1, by omega⟩
  unfold wpX_drop
  rcases hcase with rfl | ⟨s, rfl⟩
  · exact xa_has0 HP ez (br_t rfl (H _ _ _ _ _ _ _ _ _ _ _ _ _ _ _ _ _ _ _ _ _ _ _ _ _ _ _ _ _ _ _ _ (iv_I_N (by omega) hN I)))
  · refine xa_has1 HP ez hz8 (br_f (by decide) (xa_take HP ez hz8 ?_))
    exact H _ _ _ _ _ _ _ _ _ _ _ _ _ _ _ _ _ _ _ _ _ _ _ _ _ _ _ _ _ _ _ _ (iv_I_N (by omega) hN (iv_I_tk pq ez hz8 I).1)
theorem oq_rotate (HP : pn_P P p) (pq : p + e = 1) (hN : N + 2 < 2 ^ 31) (I : iv_I N p e st ni cr hc lo hi wa ic se lc rm w q no) (H : ∀ (r C T F K rc : Int32) (st rs ti ni cr hc nk ms ei us dn sa fi lo hi wa ic se lc rm w q ih vd ro no : Nat → Int32), iv_I (N + 2) p e st ni cr hc lo hi wa ic se lc rm w q no → post3 r (C, T, F, K, rc, st, rs, ti, ni, cr, hc, nk, ms, ei, us, dn, sa, fi, lo, hi, wa, ic, se, lc, rm, w, q, ih, vd, ro, no)) : wpX_rotate post3 (C, T, F, K, rc, st, rs, ti, ni, cr, hc, nk, ms, ei, us, dn, sa, fi, lo, hi, wa, ic, se, lc, rm, w, q, ih, vd, ro, no) P := by
  have hp := pp_lt HP
  obtain ⟨z, hz8, ez⟩ := I.2.1 p hp
  have hcase : z = 0 ∨ ∃ s, z = s + 1 := by
    rcases Nat.eq_zero_or_pos z with h | h
    · exact Or.inl h
    · exact Or.inr ⟨z - 1, by omega⟩
  unfold wpX_rotate
  rcases hcase with rfl | ⟨s, rfl⟩
  · exact xa_has0 HP ez (br_t rfl (H _ _ _ _ _ _ _ _ _ _ _ _ _ _ _ _ _ _ _ _ _ _ _ _ _ _ _ _ _ _ _ _ (iv_I_N (by omega) hN I)))
  · have s8 : s ≤ 8 := by omega
    have eq2 : upd q p (nI s) p = nI s := pn_at _ _ _
    have T := iv_I_tk pq ez hz8 I
    refine xa_has1 HP ez hz8 (br_f (by decide) (xa_take HP ez hz8 (xa_app_ih HP eq2 s8 ?_)))
    exact H _ _ _ _ _ _ _ _ _ _ _ _ _ _ _ _ _ _ _ _ _ _ _ _ _ _ _ _ _ _ _ _ (iv_I_N (by omega) hN (iv_I_ap pq hp eq2 s8 T.1 (iv_m_7 (iv_m_x (fun f hf => pn_l7_at _ _ hf) T.2))))
theorem oq_deliver (HP : pn_P P p) (HR : pn_P R e) (eR : 1 - P = R) (pq : p + e = 1) (hN : N + 2 < 2 ^ 31) (I : iv_I N p e st ni cr hc lo hi wa ic se lc rm w q no) (H : ∀ (r C T F K rc : Int32) (st rs ti ni cr hc nk ms ei us dn sa fi lo hi wa ic se lc rm w q ih vd ro no : Nat → Int32), iv_I (N + 2) p e st ni cr hc lo hi wa ic se lc rm w q no → post3 r (C, T, F, K, rc, st, rs, ti, ni, cr, hc, nk, ms, ei, us, dn, sa, fi, lo, hi, wa, ic, se, lc, rm, w, q, ih, vd, ro, no)) : wpX_deliver post3 (C, T, F, K, rc, st, rs, ti, ni, cr, hc, nk, ms, ei, us, dn, sa, fi, lo, hi, wa, ic, se, lc, rm, w, q, ih, vd, ro, no) P := by
  have hp := pp_lt HP
  obtain ⟨z, hz8, ez⟩ := I.2.1 p hp
  have hcase : z = 0 ∨ ∃ s, z = s + 1 := by
    rcases Nat.eq_zero_or_pos z with h | h
    · exact Or.inl h
    · exact Or.inr ⟨z - 1, by omega⟩
  unfold wpX_deliver
  rcases hcase with rfl | ⟨s, rfl⟩
  · exact xa_has0 HP ez (br_t rfl (H _ _ _ _ _ _ _ _ _ _ _ _ _ _ _ _ _ _ _ _ _ _ _ _ _ _ _ _ _ _ _ _ (iv_I_N (by omega) hN I)))
  · have T := iv_I_tk pq ez hz8 I
    have I2 := iv_I_s T.1
    have hM : ∀ f, f < 7 → pn_l7 ih (fun f => w (p * 56 + f)) f = (fun f => w (p * 56 + f)) f := fun f hf => pn_l7_at _ _ hf
    refine xa_has1 HP ez hz8 (br_f (by decide) (xa_take HP ez hz8 ?_))
    refine nm_r eR ⟨pp_v HR, ?_⟩
    rw [pp_n HR]
    by_cases c1 : st e ≤ 1
    · refine br_t c1 ?_
      exact H _ _ _ _ _ _ _ _ _ _ _ _ _ _ _ _ _ _ _ _ _ _ _ _ _ _ _ _ _ _ _ _ (iv_I_N (by omega) hN T.1)
    · refine br_f c1 ?_
      obtain ⟨VO, VQ, VN, KK, s2, t, hs9, ht9, es, et, Fp, Fe⟩ := I2
      have hs2 : 2 ≤ s2 := by
        rw [es] at c1
        have : ¬ s2 ≤ 1 := fun z => c1 (nI_le (b := 1) z (by decide))
        omega
      refine rv_all HR (by omega) (by omega) VO VQ VN KK es hs9 Fp et ht9 Fe hM hs2 T.2 ?_
      intro C1 T1 F1 K1 rc1 st1 rs1 ti1 ni1 cr1 hc1 nk1 ms1 ei1 us1 dn1 sa1 fi1 lo1 hi1 wa1 ic1 se1 lc1 rm1 w1 q1 ih1 vd1 ro1 no1 I1
      refine xa_setl HR ?_
      exact H _ _ _ _ _ _ _ _ _ _ _ _ _ _ _ _ _ _ _ _ _ _ _ _ _ _ _ _ _ _ _ _ (iv_I_N (by omega) hN (iv_I_s I1))
theorem xs_dup {b t j : Nat} {v : Int32} (hb : b ≤ 105) (htl : t ≤ 105) (hv : w (b + j) = v) (hj : j < 7) (h : wX_duplicate_44 post3 P (nI b) (nI t) C T F K rc n (nI (j + 1)) st rs ti ni cr hc nk ms ei us dn sa fi lo hi wa ic se lc rm (upd w (t + j) v) q ih vd ro no) : wX_duplicate_44 post3 P (nI b) (nI t) C T F K rc (n + 1) (nI j) st rs ti ni cr hc nk ms ei us dn sa fi lo hi wa ic se lc rm w q ih vd ro no := by
  refine br_f (pp_g7 hj) ?_
  rw [pp_bk hb hj, pp_bk htl hj, hv]
  exact ⟨pp_vbk hb hj, pp_vbk htl hj, nm_e (nm_r (nI_1 j) h)⟩
theorem oq_duplicate (HP : pn_P P p) (pq : p + e = 1) (hN : N + 2 < 2 ^ 31) (I : iv_I N p e st ni cr hc lo hi wa ic se lc rm w q no) (H : ∀ (r C T F K rc : Int32) (st rs ti ni cr hc nk ms ei us dn sa fi lo hi wa ic se lc rm w q ih vd ro no : Nat → Int32), iv_I (N + 2) p e st ni cr hc lo hi wa ic se lc rm w q no → post3 r (C, T, F, K, rc, st, rs, ti, ni, cr, hc, nk, ms, ei, us, dn, sa, fi, lo, hi, wa, ic, se, lc, rm, w, q, ih, vd, ro, no)) : wpX_duplicate post3 (C, T, F, K, rc, st, rs, ti, ni, cr, hc, nk, ms, ei, us, dn, sa, fi, lo, hi, wa, ic, se, lc, rm, w, q, ih, vd, ro, no) P := by
  have hp := pp_lt HP
  have pv := pp_v HP
  obtain ⟨z, hz8, ez⟩ := I.2.1 p hp
  have hcase : z = 0 ∨ ∃ s, z = s + 1 := by
    rcases Nat.eq_zero_or_pos z with h | h
    · exact Or.inl h
    · exact Or.inr ⟨z - 1, by omega⟩
  unfold wpX_duplicate
  rcases hcase with rfl | ⟨s, rfl⟩
  · exact xa_has0 HP ez (br_t rfl (H _ _ _ _ _ _ _ _ _ _ _ _ _ _ _ _ _ _ _ _ _ _ _ _ _ _ _ _ _ _ _ _ (iv_I_N (by omega) hN I)))
  · refine xa_has1 HP ez hz8 (br_f (by decide) ⟨pv, ?_⟩)
    rw [pp_n HP, ez]
    by_cases h8 : s + 1 < 8
    · have hb : p * 56 ≤ 105 := by omega
      have htl : p * 56 + (s + 1) * 7 ≤ 105 := by omega
      have T := iv_I_tk pq ez hz8 I
      have A := iv_I_ap (c := w (p * 56 + 0)) (i := w (p * 56 + 1)) (d := w (p * 56 + 2)) (x0 := w (p * 56 + 3)) (x1 := w (p * 56 + 4)) (x2 := w (p * 56 + 5)) (x3 := w (p * 56 + 6)) pq hp ez hz8 I (iv_m_7 T.2)
      rw [pn_aw_lt ez h8, pn_aq_lt ez h8] at A
      refine br_t (nI_lt (b := 8) h8 (by decide)) (nm_r (pp_b0 HP) ⟨pv, ?_⟩)
      rw [show nI (s + 1) * 7 = nI ((s + 1) * 7) from pn_mul _ 7]
      refine nm_r (nI_add _ _) ⟨8, ?_⟩
      refine xs_dup hb htl (j := 0) (v := w (p * 56 + 0)) ?_ (by decide) (xs_dup hb htl (j := 1) (v := w (p * 56 + 1)) ?_ (by decide) (xs_dup hb htl (j := 2) (v := w (p * 56 + 2)) ?_ (by decide) (xs_dup hb htl (j := 3) (v := w (p * 56 + 3)) ?_ (by decide) (xs_dup hb htl (j := 4) (v := w (p * 56 + 4)) ?_ (by decide) (xs_dup hb htl (j := 5) (v := w (p * 56 + 5)) ?_ (by decide) (xs_dup hb htl (j := 6) (v := w (p * 56 + 6)) ?_ (by decide) (br_t pp_77 ⟨pv, pv, ?_⟩)))))))
      · rfl
      · rw [pn_ne _ _ (by omega)]
      · rw [pn_ne _ _ (by omega), pn_ne _ _ (by omega)]
      · rw [pn_ne _ _ (by omega), pn_ne _ _ (by omega), pn_ne _ _ (by omega)]
      · rw [pn_ne _ _ (by omega), pn_ne _ _ (by omega), pn_ne _ _ (by omega), pn_ne _ _ (by omega)]
      · rw [pn_ne _ _ (by omega), pn_ne _ _ (by omega), pn_ne _ _ (by omega), pn_ne _ _ (by omega), pn_ne _ _ (by omega)]
      · rw [pn_ne _ _ (by omega), pn_ne _ _ (by omega), pn_ne _ _ (by omega), pn_ne _ _ (by omega), pn_ne _ _ (by omega), pn_ne _ _ (by omega)]
      rw [pp_n HP]
      exact nm_e (H _ _ _ _ _ _ _ _ _ _ _ _ _ _ _ _ _ _ _ _ _ _ _ _ _ _ _ _ _ _ _ _ (iv_I_N (by omega) hN A))
    · have n8 : ¬ nI (s + 1) < 8 := pn_n8 h8 hz8
      exact br_f n8 (H _ _ _ _ _ _ _ _ _ _ _ _ _ _ _ _ _ _ _ _ _ _ _ _ _ _ _ _ _ _ _ _ (iv_I_N (by omega) hN I))
theorem oq_echo (HP : pn_P P p) (pq : p + e = 1) (hN : N + 2 < 2 ^ 31) (I : iv_I N p e st ni cr hc lo hi wa ic se lc rm w q no) (H : ∀ (r C T F K rc : Int32) (st rs ti ni cr hc nk ms ei us dn sa fi lo hi wa ic se lc rm w q ih vd ro no : Nat → Int32), iv_I (N + 2) p e st ni cr hc lo hi wa ic se lc rm w q no → post3 r (C, T, F, K, rc, st, rs, ti, ni, cr, hc, nk, ms, ei, us, dn, sa, fi, lo, hi, wa, ic, se, lc, rm, w, q, ih, vd, ro, no)) : wpX_echo post3 (C, T, F, K, rc, st, rs, ti, ni, cr, hc, nk, ms, ei, us, dn, sa, fi, lo, hi, wa, ic, se, lc, rm, w, q, ih, vd, ro, no) P := by
  have I0 := I
  obtain ⟨VO, VQ, VN, KK, s, t, hs9, ht9, es, et, Fp, Fe⟩ := I
  have hp := pp_lt HP
  have pv := pp_v HP
  obtain ⟨z, hz8, ez⟩ := VQ p hp
  unfold wpX_echo
  refine xa_end1 HP (br_f (by decide) ⟨pv, br_c (fun _ => ⟨pv, br_c (fun _ => ?_) (fun _ => ?_)⟩) (fun _ => H _ _ _ _ _ _ _ _ _ _ _ _ _ _ _ _ _ _ _ _ _ _ _ _ _ _ _ _ _ _ _ _ (iv_I_N (by omega) hN I0))⟩)
  · refine ⟨pv, pv, nm_e ⟨pv, pv, nm_e ⟨pv, ?_⟩⟩⟩
    rw [pp_n HP]
    refine xa_app0 HP VN ez hz8 ⟨pv, pv, nm_e ?_⟩
    exact H _ _ _ _ _ _ _ _ _ _ _ _ _ _ _ _ _ _ _ _ _ _ _ _ _ _ _ _ _ _ _ _ (iv_ms VO (pn_VQ_a VQ hp) VN (iv_K_N (by omega) hN (iv_K_c pq ez hz8 (iv_ni pq (by omega) KK) (by decide) (by decide))) hs9 Fp es et ht9 Fe)
  · refine ev_down HP pq (by omega) VO VQ VN KK es hs9 Fp et ht9 Fe ?_
    intro C1 T1 F1 K1 rc1 st1 rs1 ti1 ni1 cr1 hc1 nk1 ms1 ei1 us1 dn1 sa1 fi1 lo1 hi1 wa1 ic1 se1 lc1 rm1 w1 q1 ih1 vd1 ro1 no1 I1
    refine ev_up HP pq (by omega) I1 ?_
    intro C2 T2 F2 K2 rc2 st2 rs2 ti2 ni2 cr2 hc2 nk2 ms2 ei2 us2 dn2 sa2 fi2 lo2 hi2 wa2 ic2 se2 lc2 rm2 w2 q2 ih2 vd2 ro2 no2 I2
    refine xa_setl HP ⟨pv, nm_e ?_⟩
    exact H _ _ _ _ _ _ _ _ _ _ _ _ _ _ _ _ _ _ _ _ _ _ _ _ _ _ _ _ _ _ _ _ I2
theorem oq_inject (HP : pn_P P p) (pq : p + e = 1) (hN : N + 2 < 2 ^ 31) (I : iv_I N p e st ni cr hc lo hi wa ic se lc rm w q no) (c d : Int32) (H : ∀ (r C T F K rc : Int32) (st rs ti ni cr hc nk ms ei us dn sa fi lo hi wa ic se lc rm w q ih vd ro no : Nat → Int32), iv_I (N + 2) p e st ni cr hc lo hi wa ic se lc rm w q no → post3 r (C, T, F, K, rc, st, rs, ti, ni, cr, hc, nk, ms, ei, us, dn, sa, fi, lo, hi, wa, ic, se, lc, rm, w, q, ih, vd, ro, no)) : wpX_inject post3 (C, T, F, K, rc, st, rs, ti, ni, cr, hc, nk, ms, ei, us, dn, sa, fi, lo, hi, wa, ic, se, lc, rm, w, q, ih, vd, ro, no) P c d := by
  have I0 := I
  obtain ⟨VO, VQ, VN, KK, s, t, hs9, ht9, es, et, Fp, Fe⟩ := I
  have hp := pp_lt HP
  have pv := pp_v HP
  obtain ⟨z, hz8, ez⟩ := VQ p hp
  have ok : ¬ c = 1 → ¬ c = 2 → wpX_append_2 (fun u => post3 1 u) (C, T, F, K, rc, st, rs, ti, ni, cr, hc, nk, ms, ei, us, dn, sa, fi, lo, hi, wa, ic, se, lc, rm, w, q, ih, vd, ro, no) P c 0 d 0 := by
    intro n1 n2
    refine xa_app0 HP VN ez hz8 ?_
    exact H _ _ _ _ _ _ _ _ _ _ _ _ _ _ _ _ _ _ _ _ _ _ _ _ _ _ _ _ _ _ _ _ (iv_ms VO (pn_VQ_a VQ hp) VN (iv_K_N (by omega) hN (iv_K_c pq ez hz8 KK n1 n2)) hs9 Fp es et ht9 Fe)
  unfold wpX_inject
  refine xa_end1 HP (br_f (by decide) ?_)
  unfold wpX_isPeersOwnCode wX_isPeersOwnCode_11
  have N0 : post3 0 (C, T, F, K, rc, st, rs, ti, ni, cr, hc, nk, ms, ei, us, dn, sa, fi, lo, hi, wa, ic, se, lc, rm, w, q, ih, vd, ro, no) := H _ _ _ _ _ _ _ _ _ _ _ _ _ _ _ _ _ _ _ _ _ _ _ _ _ _ _ _ _ _ _ _ (iv_I_N (by omega) hN I0)
  by_cases c1 : c < 1
  · have n1 : ¬ c = 1 := by intro zz; rw [zz] at c1; revert c1; decide
    have n2 : ¬ c = 2 := by intro zz; rw [zz] at c1; revert c1; decide
    refine br_t c1 (br_c (fun _ => br_f (by decide) N0) (fun _ => br_c (fun _ => br_f (by decide) N0) (fun _ => br_t rfl ⟨pv, br_c (fun _ => ?_) (fun _ => N0)⟩)))
    exact ok n1 n2
  · by_cases c6 : c ≤ 6
    · exact br_f c1 (br_t c6 (br_f (by decide) N0))
    · have n1 : ¬ c = 1 := by intro zz; rw [zz] at c6; revert c6; decide
      have n2 : ¬ c = 2 := by intro zz; rw [zz] at c6; revert c6; decide
      refine br_f c1 (br_f c6 (br_c (fun _ => br_f (by decide) N0) (fun _ => br_c (fun _ => br_f (by decide) N0) (fun _ => br_t rfl ⟨pv, br_c (fun _ => ?_) (fun _ => N0)⟩))))
      exact ok n1 n2
theorem oq_setRange (HP : pn_P P p) (pq : p + e = 1) (hN : N + 2 < 2 ^ 31) (I : iv_I N p e st ni cr hc lo hi wa ic se lc rm w q no) (o a b : Int32) (H : ∀ (r C T F K rc : Int32) (st rs ti ni cr hc nk ms ei us dn sa fi lo hi wa ic se lc rm w q ih vd ro no : Nat → Int32), iv_I (N + 2) p e st ni cr hc lo hi wa ic se lc rm w q no → post3 r (C, T, F, K, rc, st, rs, ti, ni, cr, hc, nk, ms, ei, us, dn, sa, fi, lo, hi, wa, ic, se, lc, rm, w, q, ih, vd, ro, no)) : wpX_setRange post3 (C, T, F, K, rc, st, rs, ti, ni, cr, hc, nk, ms, ei, us, dn, sa, fi, lo, hi, wa, ic, se, lc, rm, w, q, ih, vd, ro, no) P o a b := by
  have I0 := I
  obtain ⟨VO, VQ, VN, KK, s, t, hs9, ht9, es, et, Fp, Fe⟩ := I
  have hp := pp_lt HP
  have pv := pp_v HP
  obtain ⟨z, hz8, ez⟩ := VQ p hp
  have N0 : post3 0 (C, T, F, K, rc, st, rs, ti, ni, cr, hc, nk, ms, ei, us, dn, sa, fi, lo, hi, wa, ic, se, lc, rm, w, q, ih, vd, ro, no) := H _ _ _ _ _ _ _ _ _ _ _ _ _ _ _ _ _ _ _ _ _ _ _ _ _ _ _ _ _ _ _ _ (iv_I_N (by omega) hN I0)
  unfold wpX_setRange
  refine xa_end1 HP (br_f (by decide) ?_)
  unfold wpX_isOption
  by_cases o0 : o < 0
  · exact br_t o0 (br_t rfl N0)
  by_cases o4 : 4 ≤ o
  · exact br_f o0 (br_t o4 (br_t rfl N0))
  obtain ⟨i, hi4, rfl⟩ := nI_of2 (M := 3) (n := 3) (by decide) o0 (Int32.not_lt.mp (pn_34 o4))
  have hk : i < 4 := by omega
  refine br_f o0 (br_f o4 (br_f (by decide) ⟨pv, ?_⟩))
  rw [pp_n HP]
  by_cases s4 : st p < 4
  · refine br_t s4 ?_
    intro x5 e5
    have ex : x5.toNatClampNeg = p * 4 + i := by rw [e5, pp_4 HP hk]
    have vx : vp_in x5 8 := by rw [e5]; exact pp_v4 HP hk
    rw [ex]
    have hs4 : s < 4 := by
      rw [es] at s4
      exact (nI_ltI (b := 4) (by omega) (by decide)).mp s4
    refine xa_clamp ⟨vx, nm_e (xa_clamp ⟨vx, nm_e ?_⟩)⟩
    exact H _ _ _ _ _ _ _ _ _ _ _ _ _ _ _ _ _ _ _ _ _ _ _ _ _ _ _ _ _ _ _ _ (iv_ms (pn_VO_r VO (pn_cl_r a).1 (pn_cl_r b)) VQ VN (iv_K_N (by omega) hN KK) hs9 (iv_F_0 hs4) es et ht9 (iv_rng pq hk Fe))
  · exact br_f s4 N0
end OP
end
section
def iv_U (N : Nat) (u : St2) : Prop := ∃ (C T F K rc : Int32) (st rs ti ni cr hc nk ms ei us dn sa fi lo hi wa ic se lc rm w q ih vd ro no : Nat → Int32), u = (C, T, F, K, rc, st, rs, ti, ni, cr, hc, nk, ms, ei, us, dn, sa, fi, lo, hi, wa, ic, se, lc, rm, w, q, ih, vd, ro, no) ∧ iv_I N 0 1 st ni cr hc lo hi wa ic se lc rm w q no
section MU
variable {C T F K rc : Int32} {st rs ti ni cr hc nk ms ei us dn sa fi lo hi wa ic se lc rm w q ih vd ro no : Nat → Int32} {P : Int32} {p : Nat} {post : St2 → Prop}
variable {post1 : Int32 → Prop} {post3 : Int32 → St2 → Prop} {N : Nat} {u : St2}
theorem iu_open (v : Int32) (hN : N + 2 < 2 ^ 31) (I : iv_U N u) (H : ∀ r u', iv_U (N + 2) u' → post3 r u') : wpX_open post3 u v := by
  obtain ⟨C, T, F, K, rc, st, rs, ti, ni, cr, hc, nk, ms, ei, us, dn, sa, fi, lo, hi, wa, ic, se, lc, rm, w, q, ih, vd, ro, no, rfl, I⟩ := I
  by_cases c0 : v = 0
  · subst c0
    exact oq_open pp_0 (by decide) hN I (fun r C1 T1 F1 K1 rc1 st1 rs1 ti1 ni1 cr1 hc1 nk1 ms1 ei1 us1 dn1 sa1 fi1 lo1 hi1 wa1 ic1 se1 lc1 rm1 w1 q1 ih1 vd1 ro1 no1 I1 => H r _ ⟨_, _, _, _, _, _, _, _, _, _, _, _, _, _, _, _, _, _, _, _, _, _, _, _, _, _, _, _, _, _, _, rfl, I1⟩)
  by_cases c1 : v = 1
  · subst c1
    exact oq_open pp_1 (by decide) hN (iv_I_s I) (fun r C1 T1 F1 K1 rc1 st1 rs1 ti1 ni1 cr1 hc1 nk1 ms1 ei1 us1 dn1 sa1 fi1 lo1 hi1 wa1 ic1 se1 lc1 rm1 w1 q1 ih1 vd1 ro1 no1 I1 => H r _ ⟨_, _, _, _, _, _, _, _, _, _, _, _, _, _, _, _, _, _, _, _, _, _, _, _, _, _, _, _, _, _, _, rfl, iv_I_s I1⟩)
  unfold wpX_open
  refine xa_end0 c0 c1 (br_t rfl ?_)
  exact H _ _ ⟨_, _, _, _, _, _, _, _, _, _, _, _, _, _, _, _, _, _, _, _, _, _, _, _, _, _, _, _, _, _, _, rfl, iv_I_N (by omega) (by omega) I⟩
theorem iu_close (v : Int32) (hN : N + 2 < 2 ^ 31) (I : iv_U N u) (H : ∀ r u', iv_U (N + 2) u' → post3 r u') : wpX_close post3 u v := by
  obtain ⟨C, T, F, K, rc, st, rs, ti, ni, cr, hc, nk, ms, ei, us, dn, sa, fi, lo, hi, wa, ic, se, lc, rm, w, q, ih, vd, ro, no, rfl, I⟩ := I
  by_cases c0 : v = 0
  · subst c0
    exact oq_close pp_0 (by decide) hN I (fun r C1 T1 F1 K1 rc1 st1 rs1 ti1 ni1 cr1 hc1 nk1 ms1 ei1 us1 dn1 sa1 fi1 lo1 hi1 wa1 ic1 se1 lc1 rm1 w1 q1 ih1 vd1 ro1 no1 I1 => H r _ ⟨_, _, _, _, _, _, _, _, _, _, _, _, _, _, _, _, _, _, _, _, _, _, _, _, _, _, _, _, _, _, _, rfl, I1⟩)
  by_cases c1 : v = 1
  · subst c1
    exact oq_close pp_1 (by decide) hN (iv_I_s I) (fun r C1 T1 F1 K1 rc1 st1 rs1 ti1 ni1 cr1 hc1 nk1 ms1 ei1 us1 dn1 sa1 fi1 lo1 hi1 wa1 ic1 se1 lc1 rm1 w1 q1 ih1 vd1 ro1 no1 I1 => H r _ ⟨_, _, _, _, _, _, _, _, _, _, _, _, _, _, _, _, _, _, _, _, _, _, _, _, _, _, _, _, _, _, _, rfl, iv_I_s I1⟩)
  unfold wpX_close
  refine xa_end0 c0 c1 (br_t rfl ?_)
  exact H _ _ ⟨_, _, _, _, _, _, _, _, _, _, _, _, _, _, _, _, _, _, _, _, _, _, _, _, _, _, _, _, _, _, _, rfl, iv_I_N (by omega) (by omega) I⟩
theorem iu_up (v : Int32) (hN : N + 2 < 2 ^ 31) (I : iv_U N u) (H : ∀ r u', iv_U (N + 2) u' → post3 r u') : wpX_up post3 u v := by
  obtain ⟨C, T, F, K, rc, st, rs, ti, ni, cr, hc, nk, ms, ei, us, dn, sa, fi, lo, hi, wa, ic, se, lc, rm, w, q, ih, vd, ro, no, rfl, I⟩ := I
  by_cases c0 : v = 0
  · subst c0
    exact oq_up pp_0 (by decide) hN I (fun r C1 T1 F1 K1 rc1 st1 rs1 ti1 ni1 cr1 hc1 nk1 ms1 ei1 us1 dn1 sa1 fi1 lo1 hi1 wa1 ic1 se1 lc1 rm1 w1 q1 ih1 vd1 ro1 no1 I1 => H r _ ⟨_, _, _, _, _, _, _, _, _, _, _, _, _, _, _, _, _, _, _, _, _, _, _, _, _, _, _, _, _, _, _, rfl, I1⟩)
  by_cases c1 : v = 1
  · subst c1
    exact oq_up pp_1 (by decide) hN (iv_I_s I) (fun r C1 T1 F1 K1 rc1 st1 rs1 ti1 ni1 cr1 hc1 nk1 ms1 ei1 us1 dn1 sa1 fi1 lo1 hi1 wa1 ic1 se1 lc1 rm1 w1 q1 ih1 vd1 ro1 no1 I1 => H r _ ⟨_, _, _, _, _, _, _, _, _, _, _, _, _, _, _, _, _, _, _, _, _, _, _, _, _, _, _, _, _, _, _, rfl, iv_I_s I1⟩)
  unfold wpX_up
  refine xa_end0 c0 c1 (br_t rfl ?_)
  exact H _ _ ⟨_, _, _, _, _, _, _, _, _, _, _, _, _, _, _, _, _, _, _, _, _, _, _, _, _, _, _, _, _, _, _, rfl, iv_I_N (by omega) (by omega) I⟩
theorem iu_down (v : Int32) (hN : N + 2 < 2 ^ 31) (I : iv_U N u) (H : ∀ r u', iv_U (N + 2) u' → post3 r u') : wpX_down post3 u v := by
  obtain ⟨C, T, F, K, rc, st, rs, ti, ni, cr, hc, nk, ms, ei, us, dn, sa, fi, lo, hi, wa, ic, se, lc, rm, w, q, ih, vd, ro, no, rfl, I⟩ := I
  by_cases c0 : v = 0
  · subst c0
    exact oq_down pp_0 (by decide) hN I (fun r C1 T1 F1 K1 rc1 st1 rs1 ti1 ni1 cr1 hc1 nk1 ms1 ei1 us1 dn1 sa1 fi1 lo1 hi1 wa1 ic1 se1 lc1 rm1 w1 q1 ih1 vd1 ro1 no1 I1 => H r _ ⟨_, _, _, _, _, _, _, _, _, _, _, _, _, _, _, _, _, _, _, _, _, _, _, _, _, _, _, _, _, _, _, rfl, I1⟩)
  by_cases c1 : v = 1
  · subst c1
    exact oq_down pp_1 (by decide) hN (iv_I_s I) (fun r C1 T1 F1 K1 rc1 st1 rs1 ti1 ni1 cr1 hc1 nk1 ms1 ei1 us1 dn1 sa1 fi1 lo1 hi1 wa1 ic1 se1 lc1 rm1 w1 q1 ih1 vd1 ro1 no1 I1 => H r _ ⟨_, _, _, _, _, _, _, _, _, _, _, _, _, _, _, _, _, _, _, _, _, _, _, _, _, _, _, _, _, _, _, rfl, iv_I_s I1⟩)
  unfold wpX_down
  refine xa_end0 c0 c1 (br_t rfl ?_)
  exact H _ _ ⟨_, _, _, _, _, _, _, _, _, _, _, _, _, _, _, _, _, _, _, _, _, _, _, _, _, _, _, _, _, _, _, rfl, iv_I_N (by omega) (by omega) I⟩
theorem iu_drop (v : Int32) (hN : N + 2 < 2 ^ 31) (I : iv_U N u) (H : ∀ r u', iv_U (N + 2) u' → post3 r u') : wpX_drop post3 u v := by
  obtain ⟨C, T, F, K, rc, st, rs, ti, ni, cr, hc, nk, ms, ei, us, dn, sa, fi, lo, hi, wa, ic, se, lc, rm, w, q, ih, vd, ro, no, rfl, I⟩ := I
  by_cases c0 : v = 0
  · subst c0
    exact oq_drop pp_0 (by decide) hN I (fun r C1 T1 F1 K1 rc1 st1 rs1 ti1 ni1 cr1 hc1 nk1 ms1 ei1 us1 dn1 sa1 fi1 lo1 hi1 wa1 ic1 se1 lc1 rm1 w1 q1 ih1 vd1 ro1 no1 I1 => H r _ ⟨_, _, _, _, _, _, _, _, _, _, _, _, _, _, _, _, _, _, _, _, _, _, _, _, _, _, _, _, _, _, _, rfl, I1⟩)
  by_cases c1 : v = 1
  · subst c1
    exact oq_drop pp_1 (by decide) hN (iv_I_s I) (fun r C1 T1 F1 K1 rc1 st1 rs1 ti1 ni1 cr1 hc1 nk1 ms1 ei1 us1 dn1 sa1 fi1 lo1 hi1 wa1 ic1 se1 lc1 rm1 w1 q1 ih1 vd1 ro1 no1 I1 => H r _ ⟨_, _, _, _, _, _, _, _, _, _, _, _, _, _, _, _, _, _, _, _, _, _, _, _, _, _, _, _, _, _, _, rfl, iv_I_s I1⟩)
  unfold wpX_drop
  refine xa_hasE c0 c1 (br_t rfl ?_)
  exact H _ _ ⟨_, _, _, _, _, _, _, _, _, _, _, _, _, _, _, _, _, _, _, _, _, _, _, _, _, _, _, _, _, _, _, rfl, iv_I_N (by omega) (by omega) I⟩
theorem iu_rotate (v : Int32) (hN : N + 2 < 2 ^ 31) (I : iv_U N u) (H : ∀ r u', iv_U (N + 2) u' → post3 r u') : wpX_rotate post3 u v := by
  obtain ⟨C, T, F, K, rc, st, rs, ti, ni, cr, hc, nk, ms, ei, us, dn, sa, fi, lo, hi, wa, ic, se, lc, rm, w, q, ih, vd, ro, no, rfl, I⟩ := I
  by_cases c0 : v = 0
  · subst c0
    exact oq_rotate pp_0 (by decide) hN I (fun r C1 T1 F1 K1 rc1 st1 rs1 ti1 ni1 cr1 hc1 nk1 ms1 ei1 us1 dn1 sa1 fi1 lo1 hi1 wa1 ic1 se1 lc1 rm1 w1 q1 ih1 vd1 ro1 no1 I1 => H r _ ⟨_, _, _, _, _, _, _, _, _, _, _, _, _, _, _, _, _, _, _, _, _, _, _, _, _, _, _, _, _, _, _, rfl, I1⟩)
  by_cases c1 : v = 1
  · subst c1
    exact oq_rotate pp_1 (by decide) hN (iv_I_s I) (fun r C1 T1 F1 K1 rc1 st1 rs1 ti1 ni1 cr1 hc1 nk1 ms1 ei1 us1 dn1 sa1 fi1 lo1 hi1 wa1 ic1 se1 lc1 rm1 w1 q1 ih1 vd1 ro1 no1 I1 => H r _ ⟨_, _, _, _, _, _, _, _, _, _, _, _, _, _, _, _, _, _, _, _, _, _, _, _, _, _, _, _, _, _, _, rfl, iv_I_s I1⟩)
  unfold wpX_rotate
  refine xa_hasE c0 c1 (br_t rfl ?_)
  exact H _ _ ⟨_, _, _, _, _, _, _, _, _, _, _, _, _, _, _, _, _, _, _, _, _, _, _, _, _, _, _, _, _, _, _, rfl, iv_I_N (by omega) (by omega) I⟩
theorem iu_deliver (v : Int32) (hN : N + 2 < 2 ^ 31) (I : iv_U N u) (H : ∀ r u', iv_U (N + 2) u' → post3 r u') : wpX_deliver post3 u v := by
  obtain ⟨C, T, F, K, rc, st, rs, ti, ni, cr, hc, nk, ms, ei, us, dn, sa, fi, lo, hi, wa, ic, se, lc, rm, w, q, ih, vd, ro, no, rfl, I⟩ := I
  by_cases c0 : v = 0
  · subst c0
    exact oq_deliver pp_0 pp_1 (by decide) (by decide) hN I (fun r C1 T1 F1 K1 rc1 st1 rs1 ti1 ni1 cr1 hc1 nk1 ms1 ei1 us1 dn1 sa1 fi1 lo1 hi1 wa1 ic1 se1 lc1 rm1 w1 q1 ih1 vd1 ro1 no1 I1 => H r _ ⟨_, _, _, _, _, _, _, _, _, _, _, _, _, _, _, _, _, _, _, _, _, _, _, _, _, _, _, _, _, _, _, rfl, I1⟩)
  by_cases c1 : v = 1
  · subst c1
    exact oq_deliver pp_1 pp_0 (by decide) (by decide) hN (iv_I_s I) (fun r C1 T1 F1 K1 rc1 st1 rs1 ti1 ni1 cr1 hc1 nk1 ms1 ei1 us1 dn1 sa1 fi1 lo1 hi1 wa1 ic1 se1 lc1 rm1 w1 q1 ih1 vd1 ro1 no1 I1 => H r _ ⟨_, _, _, _, _, _, _, _, _, _, _, _, _, _, _, _, _, _, _, _, _, _, _, _, _, _, _, _, _, _, _, rfl, iv_I_s I1⟩)
  unfold wpX_deliver
  refine xa_hasE c0 c1 (br_t rfl ?_)
  exact H _ _ ⟨_, _, _, _, _, _, _, _, _, _, _, _, _, _, _, _, _, _, _, _, _, _, _, _, _, _, _, _, _, _, _, rfl, iv_I_N (by omega) (by omega) I⟩
theorem iu_duplicate (v : Int32) (hN : N + 2 < 2 ^ 31) (I : iv_U N u) (H : ∀ r u', iv_U (N + 2) u' → post3 r u') : wpX_duplicate post3 u v := by
  obtain ⟨C, T, F, K, rc, st, rs, ti, ni, cr, hc, nk, ms, ei, us, dn, sa, fi, lo, hi, wa, ic, se, lc, rm, w, q, ih, vd, ro, no, rfl, I⟩ := I
  by_cases c0 : v = 0
  · subst c0
    exact oq_duplicate pp_0 (by decide) hN I (fun r C1 T1 F1 K1 rc1 st1 rs1 ti1 ni1 cr1 hc1 nk1 ms1 ei1 us1 dn1 sa1 fi1 lo1 hi1 wa1 ic1 se1 lc1 rm1 w1 q1 ih1 vd1 ro1 no1 I1 => H r _ ⟨_, _, _, _, _, _, _, _, _, _, _, _, _, _, _, _, _, _, _, _, _, _, _, _, _, _, _, _, _, _, _, rfl, I1⟩)
  by_cases c1 : v = 1
  · subst c1
    exact oq_duplicate pp_1 (by decide) hN (iv_I_s I) (fun r C1 T1 F1 K1 rc1 st1 rs1 ti1 ni1 cr1 hc1 nk1 ms1 ei1 us1 dn1 sa1 fi1 lo1 hi1 wa1 ic1 se1 lc1 rm1 w1 q1 ih1 vd1 ro1 no1 I1 => H r _ ⟨_, _, _, _, _, _, _, _, _, _, _, _, _, _, _, _, _, _, _, _, _, _, _, _, _, _, _, _, _, _, _, rfl, iv_I_s I1⟩)
  unfold wpX_duplicate
  refine xa_hasE c0 c1 (br_t rfl ?_)
  exact H _ _ ⟨_, _, _, _, _, _, _, _, _, _, _, _, _, _, _, _, _, _, _, _, _, _, _, _, _, _, _, _, _, _, _, rfl, iv_I_N (by omega) (by omega) I⟩
theorem iu_echo (v : Int32) (hN : N + 2 < 2 ^ 31) (I : iv_U N u) (H : ∀ r u', iv_U (N + 2) u' → post3 r u') : wpX_echo post3 u v := by
  obtain ⟨C, T, F, K, rc, st, rs, ti, ni, cr, hc, nk, ms, ei, us, dn, sa, fi, lo, hi, wa, ic, se, lc, rm, w, q, ih, vd, ro, no, rfl, I⟩ := I
  by_cases c0 : v = 0
  · subst c0
    exact oq_echo pp_0 (by decide) hN I (fun r C1 T1 F1 K1 rc1 st1 rs1 ti1 ni1 cr1 hc1 nk1 ms1 ei1 us1 dn1 sa1 fi1 lo1 hi1 wa1 ic1 se1 lc1 rm1 w1 q1 ih1 vd1 ro1 no1 I1 => H r _ ⟨_, _, _, _, _, _, _, _, _, _, _, _, _, _, _, _, _, _, _, _, _, _, _, _, _, _, _, _, _, _, _, rfl, I1⟩)
  by_cases c1 : v = 1
  · subst c1
    exact oq_echo pp_1 (by decide) hN (iv_I_s I) (fun r C1 T1 F1 K1 rc1 st1 rs1 ti1 ni1 cr1 hc1 nk1 ms1 ei1 us1 dn1 sa1 fi1 lo1 hi1 wa1 ic1 se1 lc1 rm1 w1 q1 ih1 vd1 ro1 no1 I1 => H r _ ⟨_, _, _, _, _, _, _, _, _, _, _, _, _, _, _, _, _, _, _, _, _, _, _, _, _, _, _, _, _, _, _, rfl, iv_I_s I1⟩)
  unfold wpX_echo
  refine xa_end0 c0 c1 (br_t rfl ?_)
  exact H _ _ ⟨_, _, _, _, _, _, _, _, _, _, _, _, _, _, _, _, _, _, _, _, _, _, _, _, _, _, _, _, _, _, _, rfl, iv_I_N (by omega) (by omega) I⟩
theorem iu_inject (v : Int32) (c : Int32) (d : Int32) (hN : N + 2 < 2 ^ 31) (I : iv_U N u) (H : ∀ r u', iv_U (N + 2) u' → post3 r u') : wpX_inject post3 u v c d := by
  obtain ⟨C, T, F, K, rc, st, rs, ti, ni, cr, hc, nk, ms, ei, us, dn, sa, fi, lo, hi, wa, ic, se, lc, rm, w, q, ih, vd, ro, no, rfl, I⟩ := I
  by_cases c0 : v = 0
  · subst c0
    exact oq_inject pp_0 (by decide) hN I c d (fun r C1 T1 F1 K1 rc1 st1 rs1 ti1 ni1 cr1 hc1 nk1 ms1 ei1 us1 dn1 sa1 fi1 lo1 hi1 wa1 ic1 se1 lc1 rm1 w1 q1 ih1 vd1 ro1 no1 I1 => H r _ ⟨_, _, _, _, _, _, _, _, _, _, _, _, _, _, _, _, _, _, _, _, _, _, _, _, _, _, _, _, _, _, _, rfl, I1⟩)
  by_cases c1 : v = 1
  · subst c1
    exact oq_inject pp_1 (by decide) hN (iv_I_s I) c d (fun r C1 T1 F1 K1 rc1 st1 rs1 ti1 ni1 cr1 hc1 nk1 ms1 ei1 us1 dn1 sa1 fi1 lo1 hi1 wa1 ic1 se1 lc1 rm1 w1 q1 ih1 vd1 ro1 no1 I1 => H r _ ⟨_, _, _, _, _, _, _, _, _, _, _, _, _, _, _, _, _, _, _, _, _, _, _, _, _, _, _, _, _, _, _, rfl, iv_I_s I1⟩)
  unfold wpX_inject
  refine xa_end0 c0 c1 (br_t rfl ?_)
  exact H _ _ ⟨_, _, _, _, _, _, _, _, _, _, _, _, _, _, _, _, _, _, _, _, _, _, _, _, _, _, _, _, _, _, _, rfl, iv_I_N (by omega) (by omega) I⟩
theorem iu_setRange (v : Int32) (o : Int32) (a : Int32) (b : Int32) (hN : N + 2 < 2 ^ 31) (I : iv_U N u) (H : ∀ r u', iv_U (N + 2) u' → post3 r u') : wpX_setRange post3 u v o a b := by
  obtain ⟨C, T, F, K, rc, st, rs, ti, ni, cr, hc, nk, ms, ei, us, dn, sa, fi, lo, hi, wa, ic, se, lc, rm, w, q, ih, vd, ro, no, rfl, I⟩ := I
  by_cases c0 : v = 0
  · subst c0
    exact oq_setRange pp_0 (by decide) hN I o a b (fun r C1 T1 F1 K1 rc1 st1 rs1 ti1 ni1 cr1 hc1 nk1 ms1 ei1 us1 dn1 sa1 fi1 lo1 hi1 wa1 ic1 se1 lc1 rm1 w1 q1 ih1 vd1 ro1 no1 I1 => H r _ ⟨_, _, _, _, _, _, _, _, _, _, _, _, _, _, _, _, _, _, _, _, _, _, _, _, _, _, _, _, _, _, _, rfl, I1⟩)
  by_cases c1 : v = 1
  · subst c1
    exact oq_setRange pp_1 (by decide) hN (iv_I_s I) o a b (fun r C1 T1 F1 K1 rc1 st1 rs1 ti1 ni1 cr1 hc1 nk1 ms1 ei1 us1 dn1 sa1 fi1 lo1 hi1 wa1 ic1 se1 lc1 rm1 w1 q1 ih1 vd1 ro1 no1 I1 => H r _ ⟨_, _, _, _, _, _, _, _, _, _, _, _, _, _, _, _, _, _, _, _, _, _, _, _, _, _, _, _, _, _, _, rfl, iv_I_s I1⟩)
  unfold wpX_setRange
  refine xa_end0 c0 c1 (br_t rfl ?_)
  exact H _ _ ⟨_, _, _, _, _, _, _, _, _, _, _, _, _, _, _, _, _, _, _, _, _, _, _, _, _, _, _, _, _, _, _, rfl, iv_I_N (by omega) (by omega) I⟩
theorem iu_tick (hN : N + 2 < 2 ^ 31) (I : iv_U N u) (H : ∀ u', iv_U (N + 2) u' → post u') : wpX_tick post u := by
  obtain ⟨C, T, F, K, rc, st, rs, ti, ni, cr, hc, nk, ms, ei, us, dn, sa, fi, lo, hi, wa, ic, se, lc, rm, w, q, ih, vd, ro, no, rfl, I⟩ := I
  exact oq_tick hN I (fun C1 T1 F1 K1 rc1 st1 rs1 ti1 ni1 cr1 hc1 nk1 ms1 ei1 us1 dn1 sa1 fi1 lo1 hi1 wa1 ic1 se1 lc1 rm1 w1 q1 ih1 vd1 ro1 no1 I1 => H _ ⟨_, _, _, _, _, _, _, _, _, _, _, _, _, _, _, _, _, _, _, _, _, _, _, _, _, _, _, _, _, _, _, rfl, I1⟩)
theorem iu_setR (v : Int32) (hN : N + 2 < 2 ^ 31) (I : iv_U N u) (H : ∀ u', iv_U (N + 2) u' → post u') : wpL_setR post u v := by
  have I0 := I
  obtain ⟨C, T, F, K, rc, st, rs, ti, ni, cr, hc, nk, ms, ei, us, dn, sa, fi, lo, hi, wa, ic, se, lc, rm, w, q, ih, vd, ro, no, rfl, _⟩ := I
  unfold wpL_setR
  refine nm_e (nm_e ⟨by decide, nm_e ⟨by decide, nm_e ?_⟩⟩)
  refine iu_setRange _ _ _ _ hN I0 (fun r u' I' => ?_)
  obtain ⟨C1, T1, F1, K1, rc1, st1, rs1, ti1, ni1, cr1, hc1, nk1, ms1, ei1, us1, dn1, sa1, fi1, lo1, hi1, wa1, ic1, se1, lc1, rm1, w1, q1, ih1, vd1, ro1, no1, rfl, I1⟩ := I'
  exact H _ ⟨_, _, _, _, _, _, _, _, _, _, _, _, _, _, _, _, _, _, _, _, _, _, _, _, _, _, _, _, _, _, _, rfl, I1⟩
theorem xp_0 (HP : pn_P P p) (h : post1 (st p)) : wpX_peerInfo post1 (C, T, F, K, rc, st, rs, ti, ni, cr, hc, nk, ms, ei, us, dn, sa, fi, lo, hi, wa, ic, se, lc, rm, w, q, ih, vd, ro, no) P 0 := by
  unfold wpX_peerInfo
  refine xa_end1 HP (br_f (by decide) (br_f (by decide) (br_f (by decide) (br_t (by decide) ⟨pp_v HP, ?_⟩))))
  rw [pp_n HP]
  exact h
theorem xp_4 (HP : pn_P P p) (h : post1 (cr p)) : wpX_peerInfo post1 (C, T, F, K, rc, st, rs, ti, ni, cr, hc, nk, ms, ei, us, dn, sa, fi, lo, hi, wa, ic, se, lc, rm, w, q, ih, vd, ro, no) P 4 := by
  unfold wpX_peerInfo
  refine xa_end1 HP (br_f (by decide) (br_f (by decide) (br_f (by decide) (br_f (by decide) (br_f (by decide) (br_f (by decide) (br_f (by decide) (br_t (by decide) ⟨pp_v HP, ?_⟩))))))))
  rw [pp_n HP]
  exact h
theorem xp_5 (HP : pn_P P p) (h : post1 (hc p)) : wpX_peerInfo post1 (C, T, F, K, rc, st, rs, ti, ni, cr, hc, nk, ms, ei, us, dn, sa, fi, lo, hi, wa, ic, se, lc, rm, w, q, ih, vd, ro, no) P 5 := by
  unfold wpX_peerInfo
  refine xa_end1 HP (br_f (by decide) (br_f (by decide) (br_f (by decide) (br_f (by decide) (br_f (by decide) (br_f (by decide) (br_f (by decide) (br_f (by decide) (br_t (by decide) ⟨pp_v HP, ?_⟩)))))))))
  rw [pp_n HP]
  exact h
theorem xo_0 (HP : pn_P P p) {k : Nat} (hk : k < 4) (h : post1 (lo (p * 4 + k))) : wpX_optionInfo post1 (C, T, F, K, rc, st, rs, ti, ni, cr, hc, nk, ms, ei, us, dn, sa, fi, lo, hi, wa, ic, se, lc, rm, w, q, ih, vd, ro, no) P (nI k) 0 := by
  unfold wpX_optionInfo
  refine xa_end1 HP (br_f (by decide) ?_)
  refine (show wpX_isOption _ () (nI k) from br_f (nI_nlt (b := 0) (by omega) (by omega)) (br_f (pp_g4 hk) (br_f (by decide) ?_)))
  intro x4 e4
  have ex : x4.toNatClampNeg = p * 4 + k := by rw [e4, pp_4 HP hk]
  have vx : vp_in x4 8 := by rw [e4]; exact pp_v4 HP hk
  refine br_f (by decide) (br_f (by decide) (br_t (by decide) ⟨vx, ?_⟩))
  rw [ex]
  exact h
theorem xo_1 (HP : pn_P P p) {k : Nat} (hk : k < 4) (h : post1 (hi (p * 4 + k))) : wpX_optionInfo post1 (C, T, F, K, rc, st, rs, ti, ni, cr, hc, nk, ms, ei, us, dn, sa, fi, lo, hi, wa, ic, se, lc, rm, w, q, ih, vd, ro, no) P (nI k) 1 := by
  unfold wpX_optionInfo
  refine xa_end1 HP (br_f (by decide) ?_)
  refine (show wpX_isOption _ () (nI k) from br_f (nI_nlt (b := 0) (by omega) (by omega)) (br_f (pp_g4 hk) (br_f (by decide) ?_)))
  intro x4 e4
  have ex : x4.toNatClampNeg = p * 4 + k := by rw [e4, pp_4 HP hk]
  have vx : vp_in x4 8 := by rw [e4]; exact pp_v4 HP hk
  refine br_f (by decide) (br_f (by decide) (br_f (by decide) (br_t (by decide) ⟨vx, ?_⟩)))
  rw [ex]
  exact h
theorem xo_4 (HP : pn_P P p) {k : Nat} (hk : k < 4) (h : post1 (se (p * 4 + k))) : wpX_optionInfo post1 (C, T, F, K, rc, st, rs, ti, ni, cr, hc, nk, ms, ei, us, dn, sa, fi, lo, hi, wa, ic, se, lc, rm, w, q, ih, vd, ro, no) P (nI k) 4 := by
  unfold wpX_optionInfo
  refine xa_end1 HP (br_f (by decide) ?_)
  refine (show wpX_isOption _ () (nI k) from br_f (nI_nlt (b := 0) (by omega) (by omega)) (br_f (pp_g4 hk) (br_f (by decide) ?_)))
  intro x4 e4
  have ex : x4.toNatClampNeg = p * 4 + k := by rw [e4, pp_4 HP hk]
  have vx : vp_in x4 8 := by rw [e4]; exact pp_v4 HP hk
  refine br_f (by decide) (br_f (by decide) (br_f (by decide) (br_f (by decide) (br_f (by decide) (br_f (by decide) (br_t (by decide) ⟨vx, ?_⟩))))))
  rw [ex]
  exact h
theorem xo_5 (HP : pn_P P p) {k : Nat} (hk : k < 4) (h : post1 (lc (p * 4 + k))) : wpX_optionInfo post1 (C, T, F, K, rc, st, rs, ti, ni, cr, hc, nk, ms, ei, us, dn, sa, fi, lo, hi, wa, ic, se, lc, rm, w, q, ih, vd, ro, no) P (nI k) 5 := by
  unfold wpX_optionInfo
  refine xa_end1 HP (br_f (by decide) ?_)
  refine (show wpX_isOption _ () (nI k) from br_f (nI_nlt (b := 0) (by omega) (by omega)) (br_f (pp_g4 hk) (br_f (by decide) ?_)))
  intro x4 e4
  have ex : x4.toNatClampNeg = p * 4 + k := by rw [e4, pp_4 HP hk]
  have vx : vp_in x4 8 := by rw [e4]; exact pp_v4 HP hk
  refine br_f (by decide) (br_f (by decide) (br_f (by decide) (br_f (by decide) (br_f (by decide) (br_f (by decide) (br_f (by decide) (br_t (by decide) ⟨vx, ?_⟩)))))))
  rw [ex]
  exact h
theorem xo_6 (HP : pn_P P p) {k : Nat} (hk : k < 4) (h : post1 (rm (p * 4 + k))) : wpX_optionInfo post1 (C, T, F, K, rc, st, rs, ti, ni, cr, hc, nk, ms, ei, us, dn, sa, fi, lo, hi, wa, ic, se, lc, rm, w, q, ih, vd, ro, no) P (nI k) 6 := by
  unfold wpX_optionInfo
  refine xa_end1 HP (br_f (by decide) ?_)
  refine (show wpX_isOption _ () (nI k) from br_f (nI_nlt (b := 0) (by omega) (by omega)) (br_f (pp_g4 hk) (br_f (by decide) ?_)))
  intro x4 e4
  have ex : x4.toNatClampNeg = p * 4 + k := by rw [e4, pp_4 HP hk]
  have vx : vp_in x4 8 := by rw [e4]; exact pp_v4 HP hk
  refine br_f (by decide) (br_f (by decide) (br_f (by decide) (br_f (by decide) (br_f (by decide) (br_f (by decide) (br_f (by decide) (br_f (by decide) (br_t (by decide) ⟨vx, ?_⟩))))))))
  rw [ex]
  exact h
theorem xo_in (HP : pn_P P p) {k : Nat} {v : Int32} (hk : k < 4) (h1 : lo (p * 4 + k) ≤ v) (h2 : v ≤ hi (p * 4 + k)) (h : post1 1) : wpL_inRange post1 (C, T, F, K, rc, st, rs, ti, ni, cr, hc, nk, ms, ei, us, dn, sa, fi, lo, hi, wa, ic, se, lc, rm, w, q, ih, vd, ro, no) P (nI k) v := by
  unfold wpL_inRange
  exact xo_0 HP hk (br_f (Int32.not_lt.mpr h1) (xo_1 HP hk (br_f (Int32.not_lt.mpr h2) h)))
theorem ho_65 {J : Int32 → Prop} {R : Int32} {e n k : Nat} (HP : pn_P P p) (HR : pn_P R e) (D : iv_D cr hc se lc rm p e) (Rp : iv_R lo hi se p) (Re : iv_R lo hi rm e) (hk : k < 4) (h : wL_holds_65 post1 J P R C T F K rc st rs ti ni cr hc nk ms ei us dn sa fi lo hi wa ic se lc rm w q ih vd ro no n (nI (k + 1))) : wL_holds_65 post1 J P R C T F K rc st rs ti ni cr hc nk ms ei us dn sa fi lo hi wa ic se lc rm w q ih vd ro no (n + 1) (nI k) := by
  have d := D.2 k hk
  have e1 : lc (p * 4 + k) = rm (e * 4 + k) := d.1.trans d.2.symm
  refine br_f (pp_g4 hk) (xo_5 HP hk (xo_4 HP hk (br_t d.1 (xo_6 HR hk (br_t e1 ?_)))))
  by_cases c : lc (p * 4 + k) = -1
  · exact br_t c (nm_r (nI_1 k) h)
  · have a := Rp k hk
    have b := Re k hk
    rw [← d.1] at a
    rw [← e1] at b
    rcases a with a | a
    · exact absurd a c
    · rcases b with b | b
      · exact absurd b c
      · exact br_f c (xo_in HP hk a.1 a.2 (br_f (by decide) (xo_in HR hk b.1 b.2 (br_f (by decide) (nm_r (nI_1 k) h)))))
theorem ho_28 {R Nx : Int32} {e n : Nat} (HP : pn_P P p) (HR : pn_P R e) (eR : 1 - P = R) (eN : P + 1 = Nx) (hc0 : 0 < cr p) (D : iv_D cr hc se lc rm p e) (Rp : iv_R lo hi se p) (Re : iv_R lo hi rm e) (h : wL_holds_28 post1 C T F K rc st rs ti ni cr hc nk ms ei us dn sa fi lo hi wa ic se lc rm w q ih vd ro no n Nx) : wL_holds_28 post1 C T F K rc st rs ti ni cr hc nk ms ei us dn sa fi lo hi wa ic se lc rm w q ih vd ro no (n + 1) P := by
  have n0 : ¬ cr p = 0 := by
    intro z
    rw [z] at hc0
    exact absurd hc0 (by decide)
  refine br_f (pp_n2 HP) (nm_r eR (xp_4 HP (br_f n0 (xp_5 HR (br_t D.1 ⟨5, ?_⟩)))))
  exact ho_65 HP HR D Rp Re (k := 0) (by decide) (ho_65 HP HR D Rp Re (k := 1) (by decide) (ho_65 HP HR D Rp Re (k := 2) (by decide) (ho_65 HP HR D Rp Re (k := 3) (by decide) (br_t pp_44 (nm_r eN h)))))
theorem ho_all (I : iv_U N u) (h : post1 1) : wpL_holds post1 u := by
  obtain ⟨C, T, F, K, rc, st, rs, ti, ni, cr, hc, nk, ms, ei, us, dn, sa, fi, lo, hi, wa, ic, se, lc, rm, w, q, ih, vd, ro, no, rfl, I⟩ := I
  obtain ⟨VO, VQ, VN, KK, s, t, hs9, ht9, es, et, Fp, Fe⟩ := I
  unfold wpL_holds
  refine xp_0 pp_0 (br_c (fun a => xp_0 pp_1 (br_c (fun b => ?_) (fun _ => h))) (fun _ => h))
  have s9 : s = 9 := by
    rw [es] at a
    exact (nI_eq (b := 9) (by omega) (by decide)).mp a
  have t9 : t = 9 := by
    rw [et] at b
    exact (nI_eq (b := 9) (by omega) (by decide)).mp b
  subst s9 t9
  refine ⟨3, ho_28 pp_0 pp_1 (by decide) (Nx := 1) (by decide) (Fp.2.1 (by decide)) (Fp.2.2.1 (by decide)) (Fp.1 (by decide)).2 (Fe.2.2.2 (by decide)) ?_⟩
  exact ho_28 pp_1 pp_0 (by decide) (Nx := 2) (by decide) (Fe.2.1 (by decide)) (Fe.2.2.1 (by decide)) (Fe.1 (by decide)).2 (Fp.2.2.2 (by decide)) (br_t (by decide) h)
end MU
end
section
def pn_v4 (a b c d : Int32) : Nat → Int32 := fun k => match k with | 0 => a | 1 => b | 2 => c | _ => d
section IX
variable {C T F K rc : Int32} {st rs ti ni cr hc nk ms ei us dn sa fi lo hi wa ic se lc rm w q ih vd ro no : Nat → Int32} {P : Int32} {p : Nat} {post : St2 → Prop}
variable {N : Int32} {gc gs kc ks : Nat}
theorem xa_make (HP : pn_P P p) {k : Nat} (hk : k < 4) {a b : Int32} (h : post (C, T, F, K, rc, st, rs, ti, ni, cr, hc, nk, ms, ei, us, dn, sa, fi, upd lo (p * 4 + k) a, upd hi (p * 4 + k) b, wa, ic, upd se (p * 4 + k) (-1), upd lc (p * 4 + k) (-1), upd rm (p * 4 + k) (-1), w, q, ih, vd, ro, no)) : wpX_makeOption post (C, T, F, K, rc, st, rs, ti, ni, cr, hc, nk, ms, ei, us, dn, sa, fi, lo, hi, wa, ic, se, lc, rm, w, q, ih, vd, ro, no) P (nI k) a b := by
  unfold wpX_makeOption
  intro x5 e5
  have ex : x5.toNatClampNeg = p * 4 + k := by rw [e5, pp_4 HP hk]
  have vx : vp_in x5 8 := by rw [e5]; exact pp_v4 HP hk
  rw [ex]
  exact ⟨vx, nm_e ⟨vx, nm_e ⟨vx, nm_e ⟨vx, nm_e ⟨vx, nm_e h⟩⟩⟩⟩⟩
theorem xs_263 (HP : pn_P P p) (eN : P + 1 = N) {n : Nat} (h : wX_init_263 post gc gs kc ks n N C T F K rc st rs ti ni cr hc (upd nk p 0) ms ei us dn sa fi (pn_4 lo (p * 4) (pn_v4 64 1 1 0)) (pn_4 hi (p * 4) (pn_v4 1500 0 65535 15)) (pn_4 wa (p * 4) (pn_hi (pn_4 hi (p * 4) (pn_v4 1500 0 65535 15)) p)) (pn_4 ic (p * 4) (pn_in (pn_4 lo (p * 4) (pn_v4 64 1 1 0)) (pn_4 hi (p * 4) (pn_v4 1500 0 65535 15)) p)) (pn_4 se (p * 4) (pn_v4 (-1) (-1) (-1) (-1))) (pn_4 lc (p * 4) (pn_v4 (-1) (-1) (-1) (-1))) (pn_4 rm (p * 4) (pn_v4 (-1) (-1) (-1) (-1))) w q ih vd ro no) : wX_init_263 post gc gs kc ks (n + 1) P C T F K rc st rs ti ni cr hc nk ms ei us dn sa fi lo hi wa ic se lc rm w q ih vd ro no := by
  refine br_f (pp_n2 HP) ?_
  refine xa_make HP (k := 0) (by decide) ?_
  refine xa_make HP (k := 1) (by decide) ?_
  refine xa_make HP (k := 2) (by decide) ?_
  refine xa_make HP (k := 3) (by decide) ?_
  refine xa_start HP ?_
  exact nm_r eN h
theorem xs_240 {n k : Nat} (hk : k < 4) (h : wX_init_240 post gc gs kc ks C T F K rc n (nI (k + 1)) st rs ti ni cr hc nk ms ei us dn sa fi lo hi wa ic se lc rm w q ih vd ro (upd no k (-1))) : wX_init_240 post gc gs kc ks C T F K rc (n + 1) (nI k) st rs ti ni cr hc nk ms ei us dn sa fi lo hi wa ic se lc rm w q ih vd ro no := by
  refine br_f (pp_g4 hk) ⟨vp_in_nI hk (by decide), ?_⟩
  rw [nI_clamp (n := k) (by omega)]
  exact nm_e (nm_r (nI_1 k) h)
theorem in_lo : pn_4 (pn_4 ((fun _ => 0 : Nat → Int32)) (0 * 4) (pn_v4 64 1 1 0)) (1 * 4) (pn_v4 64 1 1 0) = upd (upd (upd (upd (upd (upd (upd (upd ((fun _ => 0 : Nat → Int32)) 0 64) 1 1) 2 1) 3 0) 4 64) 5 1) 6 1) 7 0 := rfl
theorem in_hi : pn_4 (pn_4 ((fun _ => 0 : Nat → Int32)) (0 * 4) (pn_v4 1500 0 65535 15)) (1 * 4) (pn_v4 1500 0 65535 15) = upd (upd (upd (upd (upd (upd (upd (upd ((fun _ => 0 : Nat → Int32)) 0 1500) 1 0) 2 65535) 3 15) 4 1500) 5 0) 6 65535) 7 15 := rfl
theorem in_ic : pn_4 (pn_4 ((fun _ => 0 : Nat → Int32)) (0 * 4) (pn_in (pn_4 ((fun _ => 0 : Nat → Int32)) (0 * 4) (pn_v4 64 1 1 0)) (pn_4 ((fun _ => 0 : Nat → Int32)) (0 * 4) (pn_v4 1500 0 65535 15)) 0)) (1 * 4) (pn_in (pn_4 (pn_4 ((fun _ => 0 : Nat → Int32)) (0 * 4) (pn_v4 64 1 1 0)) (1 * 4) (pn_v4 64 1 1 0)) (pn_4 (pn_4 ((fun _ => 0 : Nat → Int32)) (0 * 4) (pn_v4 1500 0 65535 15)) (1 * 4) (pn_v4 1500 0 65535 15)) 1) = upd (upd (upd (upd (upd (upd (upd (upd ((fun _ => 0 : Nat → Int32)) 0 (if (1500 : Int32) < 64 then 0 else 1)) 1 (if (0 : Int32) < 1 then 0 else 1)) 2 (if (65535 : Int32) < 1 then 0 else 1)) 3 (if (15 : Int32) < 0 then 0 else 1)) 4 (if (1500 : Int32) < 64 then 0 else 1)) 5 (if (0 : Int32) < 1 then 0 else 1)) 6 (if (65535 : Int32) < 1 then 0 else 1)) 7 (if (15 : Int32) < 0 then 0 else 1) := rfl
theorem in_VO : pn_VO (pn_4 (pn_4 ((fun _ => 0 : Nat → Int32)) (0 * 4) (pn_v4 64 1 1 0)) (1 * 4) (pn_v4 64 1 1 0)) (pn_4 (pn_4 ((fun _ => 0 : Nat → Int32)) (0 * 4) (pn_v4 1500 0 65535 15)) (1 * 4) (pn_v4 1500 0 65535 15)) (pn_4 (pn_4 ((fun _ => 0 : Nat → Int32)) (0 * 4) (pn_in (pn_4 ((fun _ => 0 : Nat → Int32)) (0 * 4) (pn_v4 64 1 1 0)) (pn_4 ((fun _ => 0 : Nat → Int32)) (0 * 4) (pn_v4 1500 0 65535 15)) 0)) (1 * 4) (pn_in (pn_4 (pn_4 ((fun _ => 0 : Nat → Int32)) (0 * 4) (pn_v4 64 1 1 0)) (1 * 4) (pn_v4 64 1 1 0)) (pn_4 (pn_4 ((fun _ => 0 : Nat → Int32)) (0 * 4) (pn_v4 1500 0 65535 15)) (1 * 4) (pn_v4 1500 0 65535 15)) 1)) := by
  intro i hi8
  rw [in_ic, in_lo, in_hi]
  have hc : i = 0 ∨ i = 1 ∨ i = 2 ∨ i = 3 ∨ i = 4 ∨ i = 5 ∨ i = 6 ∨ i = 7 := by omega
  rcases hc with rfl | rfl | rfl | rfl | rfl | rfl | rfl | rfl <;> decide
theorem in_I : iv_I 0 0 1 ((fun _ => 0 : Nat → Int32)) ((fun _ => 0 : Nat → Int32)) ((fun _ => 0 : Nat → Int32)) ((fun _ => 0 : Nat → Int32)) (pn_4 (pn_4 ((fun _ => 0 : Nat → Int32)) (0 * 4) (pn_v4 64 1 1 0)) (1 * 4) (pn_v4 64 1 1 0)) (pn_4 (pn_4 ((fun _ => 0 : Nat → Int32)) (0 * 4) (pn_v4 1500 0 65535 15)) (1 * 4) (pn_v4 1500 0 65535 15)) (pn_4 (pn_4 ((fun _ => 0 : Nat → Int32)) (0 * 4) (pn_hi (pn_4 ((fun _ => 0 : Nat → Int32)) (0 * 4) (pn_v4 1500 0 65535 15)) 0)) (1 * 4) (pn_hi (pn_4 (pn_4 ((fun _ => 0 : Nat → Int32)) (0 * 4) (pn_v4 1500 0 65535 15)) (1 * 4) (pn_v4 1500 0 65535 15)) 1)) (pn_4 (pn_4 ((fun _ => 0 : Nat → Int32)) (0 * 4) (pn_in (pn_4 ((fun _ => 0 : Nat → Int32)) (0 * 4) (pn_v4 64 1 1 0)) (pn_4 ((fun _ => 0 : Nat → Int32)) (0 * 4) (pn_v4 1500 0 65535 15)) 0)) (1 * 4) (pn_in (pn_4 (pn_4 ((fun _ => 0 : Nat → Int32)) (0 * 4) (pn_v4 64 1 1 0)) (1 * 4) (pn_v4 64 1 1 0)) (pn_4 (pn_4 ((fun _ => 0 : Nat → Int32)) (0 * 4) (pn_v4 1500 0 65535 15)) (1 * 4) (pn_v4 1500 0 65535 15)) 1)) (pn_4 (pn_4 ((fun _ => 0 : Nat → Int32)) (0 * 4) (pn_v4 (-1) (-1) (-1) (-1))) (1 * 4) (pn_v4 (-1) (-1) (-1) (-1))) (pn_4 (pn_4 ((fun _ => 0 : Nat → Int32)) (0 * 4) (pn_v4 (-1) (-1) (-1) (-1))) (1 * 4) (pn_v4 (-1) (-1) (-1) (-1))) (pn_4 (pn_4 ((fun _ => 0 : Nat → Int32)) (0 * 4) (pn_v4 (-1) (-1) (-1) (-1))) (1 * 4) (pn_v4 (-1) (-1) (-1) (-1))) ((fun _ => 0 : Nat → Int32)) ((fun _ => 0 : Nat → Int32)) (upd (upd (upd (upd (fun _ => 0 : Nat → Int32) 0 (-1)) 1 (-1)) 2 (-1)) 3 (-1)) := by
  refine ⟨in_VO, fun j _ => ⟨0, by decide, rfl⟩, ⟨rfl, rfl, rfl, rfl⟩, ⟨⟨by decide, by decide, by decide, by decide⟩, ⟨by decide, by decide, by decide, by decide⟩, ?_, ?_⟩, 0, 0, by decide, by decide, rfl, rfl, iv_F_0 (by decide), iv_F_0 (by decide)⟩
  · intro s j e1 h8 hj
    have : 0 = s := (nI_eq (a := 0) (by decide) (by omega)).mp e1
    omega
  · intro s j e1 h8 hj
    have : 0 = s := (nI_eq (a := 0) (by decide) (by omega)).mp e1
    omega
theorem xa_init {k0 k1 k2 k3 : Int32} (h : ∀ u, iv_U 0 u → post u) : wpX_init post 26 215 (0, 0, 0, 0, 0) k0 k1 k2 k3 := by
  unfold wpX_init
  refine ⟨by decide, by decide, by decide, by decide, by decide, by decide, by decide, by decide, by decide, by decide, by decide, by decide, by decide, by decide, by decide, by decide, by decide, by decide, by decide, by decide, by decide, by decide, by decide, by decide, by decide, by decide, by decide, by decide, by decide, by decide, by decide, by decide, by decide, by decide, by decide, by decide, by decide, by decide, by decide, by decide, by decide, by decide, by decide, by decide, by decide, by decide, by decide, by decide, by decide, by decide, by decide, by decide, ?_⟩
  refine xa_clamp ?_
  refine xa_clamp ?_
  refine xa_clamp ?_
  refine xa_clamp ?_
  refine ⟨5, xs_240 (k := 0) (by decide) (xs_240 (k := 1) (by decide) (xs_240 (k := 2) (by decide) (xs_240 (k := 3) (by decide) (br_t pp_44 ⟨3, ?_⟩))))⟩
  exact xs_263 pp_0 (N := 1) (by decide) (xs_263 pp_1 (N := 2) (by decide) (br_t (by decide) (h _ ⟨_, _, _, _, _, _, _, _, _, _, _, _, _, _, _, _, _, _, _, _, _, _, _, _, _, _, _, _, _, _, _, rfl, in_I⟩)))
end IX
end
section
section LW
variable {C T F K rc : Int32} {st rs ti ni cr hc nk ms ei us dn sa fi lo hi wa ic se lc rm w q ih vd ro no : Nat → Int32} {post : Int32 → Prop} {xs : Nat → Int32} {u0 : St0} {L N i n kc ks : Nat}
theorem lq_cell (hi : i < 2 ^ 31) (hL : L < 2 ^ 31) (h : ∀ r, post r) : wpL_cell post L xs u0 (nI i) := by
  refine br_c (fun _ => h _) (fun c => ⟨vp_in_nI ?_ hL, h _⟩)
  refine Nat.lt_of_not_le (fun c2 => c ?_)
  exact nI_le c2 hi
theorem lq_384 {J : Int32 → Int32 → Int32 → Int32 → Int32 → Int32 → (Nat → Int32) → (Nat → Int32) → (Nat → Int32) → (Nat → Int32) → (Nat → Int32) → (Nat → Int32) → (Nat → Int32) → (Nat → Int32) → (Nat → Int32) → (Nat → Int32) → (Nat → Int32) → (Nat → Int32) → (Nat → Int32) → (Nat → Int32) → (Nat → Int32) → (Nat → Int32) → (Nat → Int32) → (Nat → Int32) → (Nat → Int32) → (Nat → Int32) → (Nat → Int32) → (Nat → Int32) → (Nat → Int32) → (Nat → Int32) → (Nat → Int32) → (Nat → Int32) → Prop} (I : iv_I N 0 1 st ni cr hc lo hi wa ic se lc rm w q no) (h : J (nI (i + 1)) C T F K rc st rs ti ni cr hc nk ms ei us dn sa fi lo hi wa ic se lc rm w q ih vd ro no) : wL_law_384 post L xs J (nI i) kc ks C T F K rc st rs ti ni cr hc nk ms ei us dn sa fi lo hi wa ic se lc rm w q ih vd ro no := by
  unfold wL_law_384
  exact ho_all ⟨_, _, _, _, _, _, _, _, _, _, _, _, _, _, _, _, _, _, _, _, _, _, _, _, _, _, _, _, _, _, _, rfl, I⟩ (br_f (by decide) (nm_r (nI_1 i) h))
theorem lq_136 (hL : L ≤ 260) (hp : post 1) : ∀ d i N : Nat, L ≤ i + d → i ≤ 300 → N + 2 * d < 100000 → ∀ (C T F K rc : Int32) (st rs ti ni cr hc nk ms ei us dn sa fi lo hi wa ic se lc rm w q ih vd ro no : Nat → Int32), iv_I N 0 1 st ni cr hc lo hi wa ic se lc rm w q no → wL_law_136 post L xs kc ks (d + 1) (nI i) C T F K rc st rs ti ni cr hc nk ms ei us dn sa fi lo hi wa ic se lc rm w q ih vd ro no := by
  intro d
  induction d with
  | zero =>
    intro i N h1 h2 h3 C T F K rc st rs ti ni cr hc nk ms ei us dn sa fi lo hi wa ic se lc rm w q ih vd ro no I
    exact br_t (nI_le (by omega) (by omega)) hp
  | succ d IH0 =>
    intro i N h1 h2 h3 C T F K rc st rs ti ni cr hc nk ms ei us dn sa fi lo hi wa ic se lc rm w q ih vd ro no I
    have IH := IH0
    by_cases c : L ≤ i
    · exact br_t (nI_le c (by omega)) hp
    have IU : iv_U N (C, T, F, K, rc, st, rs, ti, ni, cr, hc, nk, ms, ei, us, dn, sa, fi, lo, hi, wa, ic, se, lc, rm, w, q, ih, vd, ro, no) := ⟨_, _, _, _, _, _, _, _, _, _, _, _, _, _, _, _, _, _, _, _, _, _, _, _, _, _, _, _, _, _, _, rfl, I⟩
    refine br_f (nI_ge (by omega) (by omega)) ⟨vp_in_nI (by omega) (by omega), ?_⟩
    refine nm_e (nm_e ?_)
    refine br_c (fun _ => br_c (fun _ => br_c (fun _ => ?_) (fun _ => br_c (fun _ => ?_) (fun _ => br_c (fun _ => ?_) (fun _ => br_c (fun _ => ?_) (fun _ => br_c (fun _ => ?_) (fun _ => br_c (fun _ => ?_) (fun _ => br_c (fun _ => ?_) (fun _ => br_c (fun _ => ?_) (fun _ => br_c (fun _ => ?_) (fun _ => br_c (fun _ => ?_) (fun _ => ?_))))))))))) (fun _ => ?_)) (fun _ => ?_)
    · refine iu_drop _ (by omega) IU (fun r u' I' => ?_)
      obtain ⟨C1, T1, F1, K1, rc1, st1, rs1, ti1, ni1, cr1, hc1, nk1, ms1, ei1, us1, dn1, sa1, fi1, lo1, hi1, wa1, ic1, se1, lc1, rm1, w1, q1, ih1, vd1, ro1, no1, rfl, I1⟩ := I'
      exact lq_384 I1 (IH _ _ (by omega) (by omega) (by omega) C1 T1 F1 K1 rc1 st1 rs1 ti1 ni1 cr1 hc1 nk1 ms1 ei1 us1 dn1 sa1 fi1 lo1 hi1 wa1 ic1 se1 lc1 rm1 w1 q1 ih1 vd1 ro1 no1 I1)
    · refine iu_duplicate _ (by omega) IU (fun r u' I' => ?_)
      obtain ⟨C1, T1, F1, K1, rc1, st1, rs1, ti1, ni1, cr1, hc1, nk1, ms1, ei1, us1, dn1, sa1, fi1, lo1, hi1, wa1, ic1, se1, lc1, rm1, w1, q1, ih1, vd1, ro1, no1, rfl, I1⟩ := I'
      exact lq_384 I1 (IH _ _ (by omega) (by omega) (by omega) C1 T1 F1 K1 rc1 st1 rs1 ti1 ni1 cr1 hc1 nk1 ms1 ei1 us1 dn1 sa1 fi1 lo1 hi1 wa1 ic1 se1 lc1 rm1 w1 q1 ih1 vd1 ro1 no1 I1)
    · refine iu_rotate _ (by omega) IU (fun r u' I' => ?_)
      obtain ⟨C1, T1, F1, K1, rc1, st1, rs1, ti1, ni1, cr1, hc1, nk1, ms1, ei1, us1, dn1, sa1, fi1, lo1, hi1, wa1, ic1, se1, lc1, rm1, w1, q1, ih1, vd1, ro1, no1, rfl, I1⟩ := I'
      exact lq_384 I1 (IH _ _ (by omega) (by omega) (by omega) C1 T1 F1 K1 rc1 st1 rs1 ti1 ni1 cr1 hc1 nk1 ms1 ei1 us1 dn1 sa1 fi1 lo1 hi1 wa1 ic1 se1 lc1 rm1 w1 q1 ih1 vd1 ro1 no1 I1)
    · refine iu_echo _ (by omega) IU (fun r u' I' => ?_)
      obtain ⟨C1, T1, F1, K1, rc1, st1, rs1, ti1, ni1, cr1, hc1, nk1, ms1, ei1, us1, dn1, sa1, fi1, lo1, hi1, wa1, ic1, se1, lc1, rm1, w1, q1, ih1, vd1, ro1, no1, rfl, I1⟩ := I'
      exact lq_384 I1 (IH _ _ (by omega) (by omega) (by omega) C1 T1 F1 K1 rc1 st1 rs1 ti1 ni1 cr1 hc1 nk1 ms1 ei1 us1 dn1 sa1 fi1 lo1 hi1 wa1 ic1 se1 lc1 rm1 w1 q1 ih1 vd1 ro1 no1 I1)
    · refine iu_close _ (by omega) IU (fun r u' I' => ?_)
      obtain ⟨C1, T1, F1, K1, rc1, st1, rs1, ti1, ni1, cr1, hc1, nk1, ms1, ei1, us1, dn1, sa1, fi1, lo1, hi1, wa1, ic1, se1, lc1, rm1, w1, q1, ih1, vd1, ro1, no1, rfl, I1⟩ := I'
      exact lq_384 I1 (IH _ _ (by omega) (by omega) (by omega) C1 T1 F1 K1 rc1 st1 rs1 ti1 ni1 cr1 hc1 nk1 ms1 ei1 us1 dn1 sa1 fi1 lo1 hi1 wa1 ic1 se1 lc1 rm1 w1 q1 ih1 vd1 ro1 no1 I1)
    · refine iu_open _ (by omega) IU (fun r u' I' => ?_)
      obtain ⟨C1, T1, F1, K1, rc1, st1, rs1, ti1, ni1, cr1, hc1, nk1, ms1, ei1, us1, dn1, sa1, fi1, lo1, hi1, wa1, ic1, se1, lc1, rm1, w1, q1, ih1, vd1, ro1, no1, rfl, I1⟩ := I'
      exact lq_384 I1 (IH _ _ (by omega) (by omega) (by omega) C1 T1 F1 K1 rc1 st1 rs1 ti1 ni1 cr1 hc1 nk1 ms1 ei1 us1 dn1 sa1 fi1 lo1 hi1 wa1 ic1 se1 lc1 rm1 w1 q1 ih1 vd1 ro1 no1 I1)
    · refine iu_down _ (by omega) IU (fun r u' I' => ?_)
      obtain ⟨C1, T1, F1, K1, rc1, st1, rs1, ti1, ni1, cr1, hc1, nk1, ms1, ei1, us1, dn1, sa1, fi1, lo1, hi1, wa1, ic1, se1, lc1, rm1, w1, q1, ih1, vd1, ro1, no1, rfl, I1⟩ := I'
      exact lq_384 I1 (IH _ _ (by omega) (by omega) (by omega) C1 T1 F1 K1 rc1 st1 rs1 ti1 ni1 cr1 hc1 nk1 ms1 ei1 us1 dn1 sa1 fi1 lo1 hi1 wa1 ic1 se1 lc1 rm1 w1 q1 ih1 vd1 ro1 no1 I1)
    · refine iu_up _ (by omega) IU (fun r u' I' => ?_)
      obtain ⟨C1, T1, F1, K1, rc1, st1, rs1, ti1, ni1, cr1, hc1, nk1, ms1, ei1, us1, dn1, sa1, fi1, lo1, hi1, wa1, ic1, se1, lc1, rm1, w1, q1, ih1, vd1, ro1, no1, rfl, I1⟩ := I'
      exact lq_384 I1 (IH _ _ (by omega) (by omega) (by omega) C1 T1 F1 K1 rc1 st1 rs1 ti1 ni1 cr1 hc1 nk1 ms1 ei1 us1 dn1 sa1 fi1 lo1 hi1 wa1 ic1 se1 lc1 rm1 w1 q1 ih1 vd1 ro1 no1 I1)
    · refine iu_setR _ (by omega) IU (fun u' I' => ?_)
      obtain ⟨C1, T1, F1, K1, rc1, st1, rs1, ti1, ni1, cr1, hc1, nk1, ms1, ei1, us1, dn1, sa1, fi1, lo1, hi1, wa1, ic1, se1, lc1, rm1, w1, q1, ih1, vd1, ro1, no1, rfl, I1⟩ := I'
      exact lq_384 I1 (IH _ _ (by omega) (by omega) (by omega) C1 T1 F1 K1 rc1 st1 rs1 ti1 ni1 cr1 hc1 nk1 ms1 ei1 us1 dn1 sa1 fi1 lo1 hi1 wa1 ic1 se1 lc1 rm1 w1 q1 ih1 vd1 ro1 no1 I1)
    · have inj : ∀ c0 : Int32, ∀ d0 : Int32, ∀ v0 : Int32, ∀ post3 : Int32 → St2 → Prop, (∀ r u', iv_U (N + 2) u' → post3 r u') → (¬ (10 : Int32) = 0 ∧ wpX_inject post3 (C, T, F, K, rc, st, rs, ti, ni, cr, hc, nk, ms, ei, us, dn, sa, fi, lo, hi, wa, ic, se, lc, rm, w, q, ih, vd, ro, no) v0 c0 d0) := fun c0 d0 v0 post3 h => ⟨by decide, iu_inject v0 c0 d0 (by omega) IU h⟩
      refine And.intro (by decide) (nm_e (br_c (fun _ => inj _ _ _ _ ?_) (fun _ => br_c (fun _ => inj _ _ _ _ ?_) (fun _ => br_c (fun _ => inj _ _ _ _ ?_) (fun _ => br_c (fun _ => inj _ _ _ _ ?_) (fun _ => inj _ _ _ _ ?_))))))
      all_goals
        intro r u' I'
        obtain ⟨C1, T1, F1, K1, rc1, st1, rs1, ti1, ni1, cr1, hc1, nk1, ms1, ei1, us1, dn1, sa1, fi1, lo1, hi1, wa1, ic1, se1, lc1, rm1, w1, q1, ih1, vd1, ro1, no1, rfl, I1⟩ := I'
        exact lq_384 I1 (IH _ _ (by omega) (by omega) (by omega) C1 T1 F1 K1 rc1 st1 rs1 ti1 ni1 cr1 hc1 nk1 ms1 ei1 us1 dn1 sa1 fi1 lo1 hi1 wa1 ic1 se1 lc1 rm1 w1 q1 ih1 vd1 ro1 no1 I1)
    · refine iu_tick (by omega) IU (fun u' I' => ?_)
      obtain ⟨C1, T1, F1, K1, rc1, st1, rs1, ti1, ni1, cr1, hc1, nk1, ms1, ei1, us1, dn1, sa1, fi1, lo1, hi1, wa1, ic1, se1, lc1, rm1, w1, q1, ih1, vd1, ro1, no1, rfl, I1⟩ := I'
      exact lq_384 I1 (IH _ _ (by omega) (by omega) (by omega) C1 T1 F1 K1 rc1 st1 rs1 ti1 ni1 cr1 hc1 nk1 ms1 ei1 us1 dn1 sa1 fi1 lo1 hi1 wa1 ic1 se1 lc1 rm1 w1 q1 ih1 vd1 ro1 no1 I1)
    · refine iu_tick (by omega) IU (fun u' I' => ?_)
      obtain ⟨C1, T1, F1, K1, rc1, st1, rs1, ti1, ni1, cr1, hc1, nk1, ms1, ei1, us1, dn1, sa1, fi1, lo1, hi1, wa1, ic1, se1, lc1, rm1, w1, q1, ih1, vd1, ro1, no1, rfl, I1⟩ := I'
      exact lq_384 I1 (IH _ _ (by omega) (by omega) (by omega) C1 T1 F1 K1 rc1 st1 rs1 ti1 ni1 cr1 hc1 nk1 ms1 ei1 us1 dn1 sa1 fi1 lo1 hi1 wa1 ic1 se1 lc1 rm1 w1 q1 ih1 vd1 ro1 no1 I1)
    · refine iu_deliver _ (by omega) IU (fun r u' I' => ?_)
      obtain ⟨C1, T1, F1, K1, rc1, st1, rs1, ti1, ni1, cr1, hc1, nk1, ms1, ei1, us1, dn1, sa1, fi1, lo1, hi1, wa1, ic1, se1, lc1, rm1, w1, q1, ih1, vd1, ro1, no1, rfl, I1⟩ := I'
      exact lq_384 I1 (IH _ _ (by omega) (by omega) (by omega) C1 T1 F1 K1 rc1 st1 rs1 ti1 ni1 cr1 hc1 nk1 ms1 ei1 us1 dn1 sa1 fi1 lo1 hi1 wa1 ic1 se1 lc1 rm1 w1 q1 ih1 vd1 ro1 no1 I1)
theorem lq_68s (hL : L ≤ 260) (hi6 : i < 6) (hN : N + 2 < 2 ^ 31) (I : iv_I N 0 1 st ni cr hc lo hi wa ic se lc rm w q no) (H : ∀ (C T F K rc : Int32) (st rs ti ni cr hc nk ms ei us dn sa fi lo hi wa ic se lc rm w q ih vd ro no : Nat → Int32), iv_I (N + 2) 0 1 st ni cr hc lo hi wa ic se lc rm w q no → wL_law_68 post L xs kc ks n (nI (i + 1)) C T F K rc st rs ti ni cr hc nk ms ei us dn sa fi lo hi wa ic se lc rm w q ih vd ro no) : wL_law_68 post L xs kc ks (n + 1) (nI i) C T F K rc st rs ti ni cr hc nk ms ei us dn sa fi lo hi wa ic se lc rm w q ih vd ro no := by
  refine br_f (nI_ge (b := 6) hi6 (by decide)) (lq_cell (by omega) (by omega) (fun r => ?_))
  refine br_c (fun _ => nm_r (nI_1 i) (H _ _ _ _ _ _ _ _ _ _ _ _ _ _ _ _ _ _ _ _ _ _ _ _ _ _ _ _ _ _ _ (iv_I_N (by omega) hN I))) (fun _ => ?_)
  refine iu_setR _ hN ⟨_, _, _, _, _, _, _, _, _, _, _, _, _, _, _, _, _, _, _, _, _, _, _, _, _, _, _, _, _, _, _, rfl, I⟩ (fun u' I' => ?_)
  obtain ⟨C1, T1, F1, K1, rc1, st1, rs1, ti1, ni1, cr1, hc1, nk1, ms1, ei1, us1, dn1, sa1, fi1, lo1, hi1, wa1, ic1, se1, lc1, rm1, w1, q1, ih1, vd1, ro1, no1, rfl, I1⟩ := I'
  exact nm_r (nI_1 i) (H _ _ _ _ _ _ _ _ _ _ _ _ _ _ _ _ _ _ _ _ _ _ _ _ _ _ _ _ _ _ _ I1)
theorem lq_68e (hL : L ≤ 260) (hp : post 1) (hN : N < 100) (I : iv_I N 0 1 st ni cr hc lo hi wa ic se lc rm w q no) : wL_law_68 post L xs kc ks (n + 1) (nI 6) C T F K rc st rs ti ni cr hc nk ms ei us dn sa fi lo hi wa ic se lc rm w q ih vd ro no := by
  refine br_t (by decide) ?_
  refine iu_up _ (by omega) ⟨_, _, _, _, _, _, _, _, _, _, _, _, _, _, _, _, _, _, _, _, _, _, _, _, _, _, _, _, _, _, _, rfl, I⟩ (fun r u' I' => ?_)
  obtain ⟨C1, T1, F1, K1, rc1, st1, rs1, ti1, ni1, cr1, hc1, nk1, ms1, ei1, us1, dn1, sa1, fi1, lo1, hi1, wa1, ic1, se1, lc1, rm1, w1, q1, ih1, vd1, ro1, no1, rfl, I1⟩ := I'
  refine iu_up _ (by omega) ⟨_, _, _, _, _, _, _, _, _, _, _, _, _, _, _, _, _, _, _, _, _, _, _, _, _, _, _, _, _, _, _, rfl, I1⟩ (fun r u' I' => ?_)
  obtain ⟨C2, T2, F2, K2, rc2, st2, rs2, ti2, ni2, cr2, hc2, nk2, ms2, ei2, us2, dn2, sa2, fi2, lo2, hi2, wa2, ic2, se2, lc2, rm2, w2, q2, ih2, vd2, ro2, no2, rfl, I2⟩ := I'
  refine iu_open _ (by omega) ⟨_, _, _, _, _, _, _, _, _, _, _, _, _, _, _, _, _, _, _, _, _, _, _, _, _, _, _, _, _, _, _, rfl, I2⟩ (fun r u' I' => ?_)
  obtain ⟨C3, T3, F3, K3, rc3, st3, rs3, ti3, ni3, cr3, hc3, nk3, ms3, ei3, us3, dn3, sa3, fi3, lo3, hi3, wa3, ic3, se3, lc3, rm3, w3, q3, ih3, vd3, ro3, no3, rfl, I3⟩ := I'
  refine iu_open _ (by omega) ⟨_, _, _, _, _, _, _, _, _, _, _, _, _, _, _, _, _, _, _, _, _, _, _, _, _, _, _, _, _, _, _, rfl, I3⟩ (fun r u' I' => ?_)
  obtain ⟨C4, T4, F4, K4, rc4, st4, rs4, ti4, ni4, cr4, hc4, nk4, ms4, ei4, us4, dn4, sa4, fi4, lo4, hi4, wa4, ic4, se4, lc4, rm4, w4, q4, ih4, vd4, ro4, no4, rfl, I4⟩ := I'
  refine ho_all ⟨_, _, _, _, _, _, _, _, _, _, _, _, _, _, _, _, _, _, _, _, _, _, _, _, _, _, _, _, _, _, _, rfl, I4⟩ (br_f (by decide) ⟨261, ?_⟩)
  exact lq_136 hL hp 260 6 (N + 2 + 2 + 2 + 2) (by omega) (by decide) (by omega) C4 T4 F4 K4 rc4 st4 rs4 ti4 ni4 cr4 hc4 nk4 ms4 ei4 us4 dn4 sa4 fi4 lo4 hi4 wa4 ic4 se4 lc4 rm4 w4 q4 ih4 vd4 ro4 no4 I4
end LW
end
section
theorem i_vc (xs : Nat → Int32) (L : Nat) (hL : L ≤ 260) : wpL_law (fun r => r = 1) L xs := by
  unfold wpL_law
  refine lq_cell (i := 0) (by decide) (by omega) (fun r2 => And.intro (by decide) ?_)
  refine lq_cell (i := 1) (by decide) (by omega) (fun r5 => And.intro (by decide) ?_)
  refine lq_cell (i := 2) (by decide) (by omega) (fun r8 => And.intro (by decide) ?_)
  refine lq_cell (i := 3) (by decide) (by omega) (fun r11 => And.intro (by decide) ?_)
  refine ⟨26, 215, by decide, by decide, ?_⟩
  refine xa_init (fun u I => ?_)
  obtain ⟨C1, T1, F1, K1, rc1, st1, rs1, ti1, ni1, cr1, hc1, nk1, ms1, ei1, us1, dn1, sa1, fi1, lo1, hi1, wa1, ic1, se1, lc1, rm1, w1, q1, ih1, vd1, ro1, no1, rfl, I1⟩ := I
  refine ho_all ⟨_, _, _, _, _, _, _, _, _, _, _, _, _, _, _, _, _, _, _, _, _, _, _, _, _, _, _, _, _, _, _, rfl, I1⟩ (br_f (by decide) ⟨3, ?_⟩)
  refine lq_68s (i := 4) (N := 0) hL (by decide) (by decide) I1 ?_
  intro C2 T2 F2 K2 rc2 st2 rs2 ti2 ni2 cr2 hc2 nk2 ms2 ei2 us2 dn2 sa2 fi2 lo2 hi2 wa2 ic2 se2 lc2 rm2 w2 q2 ih2 vd2 ro2 no2 I2
  refine lq_68s (i := 5) (N := 0 + 2) hL (by decide) (by decide) I2 ?_
  intro C3 T3 F3 K3 rc3 st3 rs3 ti3 ni3 cr3 hc3 nk3 ms3 ei3 us3 dn3 sa3 fi3 lo3 hi3 wa3 ic3 se3 lc3 rm3 w3 q3 ih3 vd3 ro3 no3 I3
  exact lq_68e (N := 0 + 2 + 2) hL rfl (by decide) I3
end
