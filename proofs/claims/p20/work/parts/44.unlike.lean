set_option maxRecDepth 100000 in
theorem c_cardsUnlike {sc : pm_S} {w : pm_W} {k p r q s A H : Nat} {h0 el e f : Int32} {rs ss : List Int64} (hb : w[k]? = some (.inr (1, [.int h0, .int el, .ref p]))) (hp : w[p]? = some (.inr (10, [.int (nI A), .int (nI H), .ref r]))) (hr : w[r]? = some (.inl (2, .inr (.inl rs)))) (lr : rs.length = 20) (hq : w[q]? = some (.inr (10, [.int e, .int f, .ref s]))) (hs : w[s]? = some (.inl (2, .inr (.inl ss)))) (ls : ss.length = 20) (hA : A ≤ 20) (hH : H ≤ 20) : pm_Mt sc 2 7 2 [.ref k, .ref q] w (fun rv w' => w = w' ∧ rv = some (.int (if ¬ h0 = 2 ∨ ¬ (nI A = e ∧ nI H = f) then -9 else pm_dy rs ss A H 0 0))) := by
  intro d hd
  show pm_V sc d 7 0 _ [] w _
  refine v_aload_n rfl rfl ?_
  refine v_get rfl hb rfl ?_
  refine v_iconst (v := 2) rfl (by decide) ?_
  refine v_icmp_ne rfl (fun t5 => ?_) (fun t5 => ?_)
  · refine v_bipush (v := (-9)) rfl (by decide) ?_
    exact v_iret rfl ⟨rfl, congrArg (fun z => some (Value.int z)) (if_pos (by first | exact Or.inl t5 | exact Or.inr ha)).symm⟩
  · refine v_aload_n rfl rfl ?_
    refine v_get rfl hb rfl ?_
    refine v_aload_n rfl rfl ?_
    refine v_callV rfl (c_isAsLargeAs hp hq) rfl rfl hp rfl rfl (by omega) (fun rv w1 hq => ?_)
    obtain ⟨rfl, rfl⟩ := hq
    by_cases ha : nI A = e ∧ nI H = f
    · rw [pm_b_1 ha]
      refine v_if_ne rfl (fun _ => ?_) (fun h => absurd h (by decide))
      refine v_aload_n rfl rfl ?_
      refine v_get rfl hb rfl ?_
      refine v_aload_n rfl rfl ?_
      refine v_callV rfl (c_differences hp hr lr hq hs ls hA hH) rfl rfl hp rfl rfl (by omega) (fun rv w1 hq2 => ?_)
      obtain ⟨rfl, rfl⟩ := hq2
      exact v_iret rfl ⟨rfl, congrArg (fun z => some (Value.int z)) (if_neg (fun hx => hx.elim (fun g => g (by first | exact t5 | exact Decidable.not_not.mp t5)) (fun g => g ha))).symm⟩
    · rw [pm_b_0 ha]
      refine v_if_ne rfl (fun h => absurd h (by decide)) (fun _ => ?_)
      refine v_bipush (v := (-9)) rfl (by decide) ?_
      exact v_iret rfl ⟨rfl, congrArg (fun z => some (Value.int z)) (if_pos (by first | exact Or.inl t5 | exact Or.inr ha)).symm⟩

