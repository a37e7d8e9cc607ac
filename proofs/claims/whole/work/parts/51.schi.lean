/-- the tails of a recipe's last n of c steps -/
def ztb (m : zM) (r c : Int) : Nat → Int → Int
  | 0 => fun _ => 0
  | n + 1 => fun k => if k = c - 1 - n then zlast m 0 r k + zmxs (fun j => if zbit (m 5 0 (r * 8 + (k + 1 + j)) 2) k then ztb m r c n (k + 1 + j) else 0) n else ztb m r c n k
/-- the menu's steps -/
def zEc (m : zM) : zE := fun a p => match a with
  | 0 => if 0 < m 4 0 (p / 8) 1 ∧ p % 8 < m 4 0 (p / 8) 2 then 1 else 0
  | 1 => zlast m 0 (p / 8) (p % 8)
  | 2 => m 5 0 p 1
  | 3 => m 5 0 p 2
  | 4 => ztb m (p / 8) (m 4 0 (p / 8) 2) 8 (p % 8)
  | _ => 0
theorem ztb_up {m : zM} {r c k : Int} : ∀ (n n' : Nat), n ≤ n' → c - n ≤ k → ztb m r c n' k = ztb m r c n k
  | n, 0, h, _ => by rw [show n = 0 by omega]
  | n, n' + 1, h, hk => by
    by_cases e : n = n' + 1
    · rw [e]
    · rw [ztb]
      simp only
      rw [if_neg (by omega)]
      exact ztb_up n n' (by omega) hk
theorem ztb_eq {m : zM} {r c k : Int} (h0 : 0 ≤ k) (hk : k < c) (hc : c ≤ 8) : ztb m r c 8 k = zlast m 0 r k + zmxs (fun j => if zbit (m 5 0 (r * 8 + (k + 1 + j)) 2) k then ztb m r c 8 (k + 1 + j) else 0) (c - k - 1).toNat := by
  have e1 := ztb_up (m := m) (r := r) (c := c) (k := k) ((c - k - 1).toNat + 1) 8 (by omega) (by omega)
  rw [e1, ztb]
  simp only
  rw [if_pos (by omega)]
  congr 1
  refine zmxs_congr _ (fun j j0 j1 => ?_)
  rw [ztb_up (m := m) (r := r) (c := c) (k := k + 1 + j) (c - k - 1).toNat 8 (by omega) (by omega)]
