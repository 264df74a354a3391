/-- a walk on -/
theorem md_wk.wk {W F p : Nat} : md_wk W (md_wk W F p) = fun j => md_wk W F (p + j) := funext fun j => by
  unfold md_wk
  rw [Nat.mod_add_mod, Nat.add_assoc]
/-- a run more is mended -/
theorem md_E.next {cc : Nat → Int32} {W F L p q : Nat} {v u : Int} {S : Nat → Prop} (hS : S = fs_S cc W F) (hp : S p) (hg : fs_gap S W p q) (h : md_km (md_E L 0 (fun j => fs_st cc W (md_wk W F j)) (md_wk W F) p) v) (g : md_km (md_E L 0 (fun _ => False) (md_wk W (md_wk W F p)) q) u) : md_km (md_E L 0 (fun j => fs_st cc W (md_wk W F j)) (md_wk W F) (p + q)) (v + u) := by
  subst hS
  rw [md_wk.wk] at g
  exact md_km.add h g (fun K => md_E.more (pt := fun j => fs_st cc W (md_wk W F j)) hg.1 (hp.imp (fun a => a) (fun a => a)) (fun j j1 j2 a => hg.2.2.2 j j1 j2 (Or.inr a)))
theorem md_E.bw {cc : Nat → Prop} {W F L s k : Nat} {v : Int} (hF : F ≤ W) (hW : 0 < W) (hW2 : W ≤ 20) (hk : k ≤ W) (h : md_km (md_E L s cc (md_wk W F) k) v) : v ≤ 22020095 := by
  have q := md_E.bd (fun i j hi hj => md_wk.inj hF (by omega) (by omega)) (fun j _ => Nat.lt_of_lt_of_le (md_wk.lt hW) hW2) (by omega) h
  omega
