theorem pm_Rg.u0 {gi : Nat → Int32} {ga : Nat → List Int32} (h : pm_Rg gi ga) {v : Int32} (hv : pm_rng v 1 20) : pm_Rg (pm_uI gi 0 v) ga := by
  obtain ⟨a0, a1, a2, a3, a4, a5, a6, a7, a8, ⟨l0, l1, l2, l3, l4, l5, l6, l7, l8, l9, l10, l11, l12, l13, l14⟩, e0, e1, e2, e3, e4, e5, e6, e7, e8, e13, e14⟩ := h
  exact ⟨hv, a1, a2, a3, a4, a5, a6, a7, a8, ⟨l0, l1, l2, l3, l4, l5, l6, l7, l8, l9, l10, l11, l12, l13, l14⟩, e0, e1, e2, e3, e4, e5, e6, e7, e8, e13, e14⟩
theorem pm_Rg.u1 {gi : Nat → Int32} {ga : Nat → List Int32} (h : pm_Rg gi ga) {v : Int32} (hv : pm_rng v 1 20) : pm_Rg (pm_uI gi 1 v) ga := by
  obtain ⟨a0, a1, a2, a3, a4, a5, a6, a7, a8, ⟨l0, l1, l2, l3, l4, l5, l6, l7, l8, l9, l10, l11, l12, l13, l14⟩, e0, e1, e2, e3, e4, e5, e6, e7, e8, e13, e14⟩ := h
  exact ⟨a0, hv, a2, a3, a4, a5, a6, a7, a8, ⟨l0, l1, l2, l3, l4, l5, l6, l7, l8, l9, l10, l11, l12, l13, l14⟩, e0, e1, e2, e3, e4, e5, e6, e7, e8, e13, e14⟩
theorem pm_Rg.u2 {gi : Nat → Int32} {ga : Nat → List Int32} (h : pm_Rg gi ga) {v : Int32} (hv : pm_rng v 1 20) : pm_Rg (pm_uI gi 2 v) ga := by
  obtain ⟨a0, a1, a2, a3, a4, a5, a6, a7, a8, ⟨l0, l1, l2, l3, l4, l5, l6, l7, l8, l9, l10, l11, l12, l13, l14⟩, e0, e1, e2, e3, e4, e5, e6, e7, e8, e13, e14⟩ := h
  exact ⟨a0, a1, hv, a3, a4, a5, a6, a7, a8, ⟨l0, l1, l2, l3, l4, l5, l6, l7, l8, l9, l10, l11, l12, l13, l14⟩, e0, e1, e2, e3, e4, e5, e6, e7, e8, e13, e14⟩
theorem pm_Rg.u3 {gi : Nat → Int32} {ga : Nat → List Int32} (h : pm_Rg gi ga) {v : Int32} (hv : pm_rng v 1 20) : pm_Rg (pm_uI gi 3 v) ga := by
  obtain ⟨a0, a1, a2, a3, a4, a5, a6, a7, a8, ⟨l0, l1, l2, l3, l4, l5, l6, l7, l8, l9, l10, l11, l12, l13, l14⟩, e0, e1, e2, e3, e4, e5, e6, e7, e8, e13, e14⟩ := h
  exact ⟨a0, a1, a2, hv, a4, a5, a6, a7, a8, ⟨l0, l1, l2, l3, l4, l5, l6, l7, l8, l9, l10, l11, l12, l13, l14⟩, e0, e1, e2, e3, e4, e5, e6, e7, e8, e13, e14⟩
theorem pm_Rg.u4 {gi : Nat → Int32} {ga : Nat → List Int32} (h : pm_Rg gi ga) {v : Int32} (hv : pm_rng v 0 20) : pm_Rg (pm_uI gi 4 v) ga := by
  obtain ⟨a0, a1, a2, a3, a4, a5, a6, a7, a8, ⟨l0, l1, l2, l3, l4, l5, l6, l7, l8, l9, l10, l11, l12, l13, l14⟩, e0, e1, e2, e3, e4, e5, e6, e7, e8, e13, e14⟩ := h
  exact ⟨a0, a1, a2, a3, hv, a5, a6, a7, a8, ⟨l0, l1, l2, l3, l4, l5, l6, l7, l8, l9, l10, l11, l12, l13, l14⟩, e0, e1, e2, e3, e4, e5, e6, e7, e8, e13, e14⟩
theorem pm_Rg.u5 {gi : Nat → Int32} {ga : Nat → List Int32} (h : pm_Rg gi ga) {v : Int32} (hv : pm_rng v 0 3000) : pm_Rg (pm_uI gi 5 v) ga := by
  obtain ⟨a0, a1, a2, a3, a4, a5, a6, a7, a8, ⟨l0, l1, l2, l3, l4, l5, l6, l7, l8, l9, l10, l11, l12, l13, l14⟩, e0, e1, e2, e3, e4, e5, e6, e7, e8, e13, e14⟩ := h
  exact ⟨a0, a1, a2, a3, a4, hv, a6, a7, a8, ⟨l0, l1, l2, l3, l4, l5, l6, l7, l8, l9, l10, l11, l12, l13, l14⟩, e0, e1, e2, e3, e4, e5, e6, e7, e8, e13, e14⟩
theorem pm_Rg.u6 {gi : Nat → Int32} {ga : Nat → List Int32} (h : pm_Rg gi ga) {v : Int32} (hv : pm_rng v (-9) 5) : pm_Rg (pm_uI gi 6 v) ga := by
  obtain ⟨a0, a1, a2, a3, a4, a5, a6, a7, a8, ⟨l0, l1, l2, l3, l4, l5, l6, l7, l8, l9, l10, l11, l12, l13, l14⟩, e0, e1, e2, e3, e4, e5, e6, e7, e8, e13, e14⟩ := h
  exact ⟨a0, a1, a2, a3, a4, a5, hv, a7, a8, ⟨l0, l1, l2, l3, l4, l5, l6, l7, l8, l9, l10, l11, l12, l13, l14⟩, e0, e1, e2, e3, e4, e5, e6, e7, e8, e13, e14⟩
theorem pm_Rg.u7 {gi : Nat → Int32} {ga : Nat → List Int32} (h : pm_Rg gi ga) {v : Int32} (hv : pm_rng v 0 12) : pm_Rg (pm_uI gi 7 v) ga := by
  obtain ⟨a0, a1, a2, a3, a4, a5, a6, a7, a8, ⟨l0, l1, l2, l3, l4, l5, l6, l7, l8, l9, l10, l11, l12, l13, l14⟩, e0, e1, e2, e3, e4, e5, e6, e7, e8, e13, e14⟩ := h
  exact ⟨a0, a1, a2, a3, a4, a5, a6, hv, a8, ⟨l0, l1, l2, l3, l4, l5, l6, l7, l8, l9, l10, l11, l12, l13, l14⟩, e0, e1, e2, e3, e4, e5, e6, e7, e8, e13, e14⟩
theorem pm_Rg.u8 {gi : Nat → Int32} {ga : Nat → List Int32} (h : pm_Rg gi ga) {v : Int32} (hv : pm_rng v 0 20) : pm_Rg (pm_uI gi 8 v) ga := by
  obtain ⟨a0, a1, a2, a3, a4, a5, a6, a7, a8, ⟨l0, l1, l2, l3, l4, l5, l6, l7, l8, l9, l10, l11, l12, l13, l14⟩, e0, e1, e2, e3, e4, e5, e6, e7, e8, e13, e14⟩ := h
  exact ⟨a0, a1, a2, a3, a4, a5, a6, a7, hv, ⟨l0, l1, l2, l3, l4, l5, l6, l7, l8, l9, l10, l11, l12, l13, l14⟩, e0, e1, e2, e3, e4, e5, e6, e7, e8, e13, e14⟩
theorem pm_Rg.s0 {gi : Nat → Int32} {ga : Nat → List Int32} (h : pm_Rg gi ga) {j : Nat} {v : Int32} (hv : pm_rng v 0 99) : pm_Rg gi (pm_uA ga 0 ((ga 0).set j v)) := by
  obtain ⟨a0, a1, a2, a3, a4, a5, a6, a7, a8, ⟨l0, l1, l2, l3, l4, l5, l6, l7, l8, l9, l10, l11, l12, l13, l14⟩, e0, e1, e2, e3, e4, e5, e6, e7, e8, e13, e14⟩ := h
  exact ⟨a0, a1, a2, a3, a4, a5, a6, a7, a8, ⟨(by show ((ga 0).set j v).length = _; rw [List.length_set]; exact l0), l1, l2, l3, l4, l5, l6, l7, l8, l9, l10, l11, l12, l13, l14⟩, (fun x hx => by rcases List.mem_or_eq_of_mem_set (show x ∈ (ga 0).set j v from hx) with g | g; exact e0 x g; rw [g]; exact hv), e1, e2, e3, e4, e5, e6, e7, e8, e13, e14⟩
theorem pm_Rg.s1 {gi : Nat → Int32} {ga : Nat → List Int32} (h : pm_Rg gi ga) {j : Nat} {v : Int32} (hv : pm_rng v 0 5) : pm_Rg gi (pm_uA ga 1 ((ga 1).set j v)) := by
  obtain ⟨a0, a1, a2, a3, a4, a5, a6, a7, a8, ⟨l0, l1, l2, l3, l4, l5, l6, l7, l8, l9, l10, l11, l12, l13, l14⟩, e0, e1, e2, e3, e4, e5, e6, e7, e8, e13, e14⟩ := h
  exact ⟨a0, a1, a2, a3, a4, a5, a6, a7, a8, ⟨l0, (by show ((ga 1).set j v).length = _; rw [List.length_set]; exact l1), l2, l3, l4, l5, l6, l7, l8, l9, l10, l11, l12, l13, l14⟩, e0, (fun x hx => by rcases List.mem_or_eq_of_mem_set (show x ∈ (ga 1).set j v from hx) with g | g; exact e1 x g; rw [g]; exact hv), e2, e3, e4, e5, e6, e7, e8, e13, e14⟩
theorem pm_Rg.s2 {gi : Nat → Int32} {ga : Nat → List Int32} (h : pm_Rg gi ga) {j : Nat} {v : Int32} (hv : pm_rng v 0 2000) : pm_Rg gi (pm_uA ga 2 ((ga 2).set j v)) := by
  obtain ⟨a0, a1, a2, a3, a4, a5, a6, a7, a8, ⟨l0, l1, l2, l3, l4, l5, l6, l7, l8, l9, l10, l11, l12, l13, l14⟩, e0, e1, e2, e3, e4, e5, e6, e7, e8, e13, e14⟩ := h
  exact ⟨a0, a1, a2, a3, a4, a5, a6, a7, a8, ⟨l0, l1, (by show ((ga 2).set j v).length = _; rw [List.length_set]; exact l2), l3, l4, l5, l6, l7, l8, l9, l10, l11, l12, l13, l14⟩, e0, e1, (fun x hx => by rcases List.mem_or_eq_of_mem_set (show x ∈ (ga 2).set j v from hx) with g | g; exact e2 x g; rw [g]; exact hv), e3, e4, e5, e6, e7, e8, e13, e14⟩
theorem pm_Rg.s3 {gi : Nat → Int32} {ga : Nat → List Int32} (h : pm_Rg gi ga) {j : Nat} {v : Int32} (hv : pm_rng v (-9) 3000) : pm_Rg gi (pm_uA ga 3 ((ga 3).set j v)) := by
  obtain ⟨a0, a1, a2, a3, a4, a5, a6, a7, a8, ⟨l0, l1, l2, l3, l4, l5, l6, l7, l8, l9, l10, l11, l12, l13, l14⟩, e0, e1, e2, e3, e4, e5, e6, e7, e8, e13, e14⟩ := h
  exact ⟨a0, a1, a2, a3, a4, a5, a6, a7, a8, ⟨l0, l1, l2, (by show ((ga 3).set j v).length = _; rw [List.length_set]; exact l3), l4, l5, l6, l7, l8, l9, l10, l11, l12, l13, l14⟩, e0, e1, e2, (fun x hx => by rcases List.mem_or_eq_of_mem_set (show x ∈ (ga 3).set j v from hx) with g | g; exact e3 x g; rw [g]; exact hv), e4, e5, e6, e7, e8, e13, e14⟩
theorem pm_Rg.s4 {gi : Nat → Int32} {ga : Nat → List Int32} (h : pm_Rg gi ga) {j : Nat} {v : Int32} (hv : pm_rng v 0 200) : pm_Rg gi (pm_uA ga 4 ((ga 4).set j v)) := by
  obtain ⟨a0, a1, a2, a3, a4, a5, a6, a7, a8, ⟨l0, l1, l2, l3, l4, l5, l6, l7, l8, l9, l10, l11, l12, l13, l14⟩, e0, e1, e2, e3, e4, e5, e6, e7, e8, e13, e14⟩ := h
  exact ⟨a0, a1, a2, a3, a4, a5, a6, a7, a8, ⟨l0, l1, l2, l3, (by show ((ga 4).set j v).length = _; rw [List.length_set]; exact l4), l5, l6, l7, l8, l9, l10, l11, l12, l13, l14⟩, e0, e1, e2, e3, (fun x hx => by rcases List.mem_or_eq_of_mem_set (show x ∈ (ga 4).set j v from hx) with g | g; exact e4 x g; rw [g]; exact hv), e5, e6, e7, e8, e13, e14⟩
theorem pm_Rg.s5 {gi : Nat → Int32} {ga : Nat → List Int32} (h : pm_Rg gi ga) {j : Nat} {v : Int32} (hv : pm_rng v 0 999) : pm_Rg gi (pm_uA ga 5 ((ga 5).set j v)) := by
  obtain ⟨a0, a1, a2, a3, a4, a5, a6, a7, a8, ⟨l0, l1, l2, l3, l4, l5, l6, l7, l8, l9, l10, l11, l12, l13, l14⟩, e0, e1, e2, e3, e4, e5, e6, e7, e8, e13, e14⟩ := h
  exact ⟨a0, a1, a2, a3, a4, a5, a6, a7, a8, ⟨l0, l1, l2, l3, l4, (by show ((ga 5).set j v).length = _; rw [List.length_set]; exact l5), l6, l7, l8, l9, l10, l11, l12, l13, l14⟩, e0, e1, e2, e3, e4, (fun x hx => by rcases List.mem_or_eq_of_mem_set (show x ∈ (ga 5).set j v from hx) with g | g; exact e5 x g; rw [g]; exact hv), e6, e7, e8, e13, e14⟩
theorem pm_Rg.s6 {gi : Nat → Int32} {ga : Nat → List Int32} (h : pm_Rg gi ga) {j : Nat} {v : Int32} (hv : pm_rng v 0 3000) : pm_Rg gi (pm_uA ga 6 ((ga 6).set j v)) := by
  obtain ⟨a0, a1, a2, a3, a4, a5, a6, a7, a8, ⟨l0, l1, l2, l3, l4, l5, l6, l7, l8, l9, l10, l11, l12, l13, l14⟩, e0, e1, e2, e3, e4, e5, e6, e7, e8, e13, e14⟩ := h
  exact ⟨a0, a1, a2, a3, a4, a5, a6, a7, a8, ⟨l0, l1, l2, l3, l4, l5, (by show ((ga 6).set j v).length = _; rw [List.length_set]; exact l6), l7, l8, l9, l10, l11, l12, l13, l14⟩, e0, e1, e2, e3, e4, e5, (fun x hx => by rcases List.mem_or_eq_of_mem_set (show x ∈ (ga 6).set j v from hx) with g | g; exact e6 x g; rw [g]; exact hv), e7, e8, e13, e14⟩
theorem pm_Rg.s7 {gi : Nat → Int32} {ga : Nat → List Int32} (h : pm_Rg gi ga) {j : Nat} {v : Int32} (hv : pm_rng v 0 2) : pm_Rg gi (pm_uA ga 7 ((ga 7).set j v)) := by
  obtain ⟨a0, a1, a2, a3, a4, a5, a6, a7, a8, ⟨l0, l1, l2, l3, l4, l5, l6, l7, l8, l9, l10, l11, l12, l13, l14⟩, e0, e1, e2, e3, e4, e5, e6, e7, e8, e13, e14⟩ := h
  exact ⟨a0, a1, a2, a3, a4, a5, a6, a7, a8, ⟨l0, l1, l2, l3, l4, l5, l6, (by show ((ga 7).set j v).length = _; rw [List.length_set]; exact l7), l8, l9, l10, l11, l12, l13, l14⟩, e0, e1, e2, e3, e4, e5, e6, (fun x hx => by rcases List.mem_or_eq_of_mem_set (show x ∈ (ga 7).set j v from hx) with g | g; exact e7 x g; rw [g]; exact hv), e8, e13, e14⟩
theorem pm_Rg.s8 {gi : Nat → Int32} {ga : Nat → List Int32} (h : pm_Rg gi ga) {j : Nat} {v : Int32} (hv : pm_rng v 0 500) : pm_Rg gi (pm_uA ga 8 ((ga 8).set j v)) := by
  obtain ⟨a0, a1, a2, a3, a4, a5, a6, a7, a8, ⟨l0, l1, l2, l3, l4, l5, l6, l7, l8, l9, l10, l11, l12, l13, l14⟩, e0, e1, e2, e3, e4, e5, e6, e7, e8, e13, e14⟩ := h
  exact ⟨a0, a1, a2, a3, a4, a5, a6, a7, a8, ⟨l0, l1, l2, l3, l4, l5, l6, l7, (by show ((ga 8).set j v).length = _; rw [List.length_set]; exact l8), l9, l10, l11, l12, l13, l14⟩, e0, e1, e2, e3, e4, e5, e6, e7, (fun x hx => by rcases List.mem_or_eq_of_mem_set (show x ∈ (ga 8).set j v from hx) with g | g; exact e8 x g; rw [g]; exact hv), e13, e14⟩
theorem pm_Rg.s9 {gi : Nat → Int32} {ga : Nat → List Int32} (h : pm_Rg gi ga) {j : Nat} {v : Int32} : pm_Rg gi (pm_uA ga 9 ((ga 9).set j v)) := by
  obtain ⟨a0, a1, a2, a3, a4, a5, a6, a7, a8, ⟨l0, l1, l2, l3, l4, l5, l6, l7, l8, l9, l10, l11, l12, l13, l14⟩, e0, e1, e2, e3, e4, e5, e6, e7, e8, e13, e14⟩ := h
  exact ⟨a0, a1, a2, a3, a4, a5, a6, a7, a8, ⟨l0, l1, l2, l3, l4, l5, l6, l7, l8, (by show ((ga 9).set j v).length = _; rw [List.length_set]; exact l9), l10, l11, l12, l13, l14⟩, e0, e1, e2, e3, e4, e5, e6, e7, e8, e13, e14⟩
theorem pm_Rg.s10 {gi : Nat → Int32} {ga : Nat → List Int32} (h : pm_Rg gi ga) {j : Nat} {v : Int32} : pm_Rg gi (pm_uA ga 10 ((ga 10).set j v)) := by
  obtain ⟨a0, a1, a2, a3, a4, a5, a6, a7, a8, ⟨l0, l1, l2, l3, l4, l5, l6, l7, l8, l9, l10, l11, l12, l13, l14⟩, e0, e1, e2, e3, e4, e5, e6, e7, e8, e13, e14⟩ := h
  exact ⟨a0, a1, a2, a3, a4, a5, a6, a7, a8, ⟨l0, l1, l2, l3, l4, l5, l6, l7, l8, l9, (by show ((ga 10).set j v).length = _; rw [List.length_set]; exact l10), l11, l12, l13, l14⟩, e0, e1, e2, e3, e4, e5, e6, e7, e8, e13, e14⟩
theorem pm_Rg.s11 {gi : Nat → Int32} {ga : Nat → List Int32} (h : pm_Rg gi ga) {j : Nat} {v : Int32} : pm_Rg gi (pm_uA ga 11 ((ga 11).set j v)) := by
  obtain ⟨a0, a1, a2, a3, a4, a5, a6, a7, a8, ⟨l0, l1, l2, l3, l4, l5, l6, l7, l8, l9, l10, l11, l12, l13, l14⟩, e0, e1, e2, e3, e4, e5, e6, e7, e8, e13, e14⟩ := h
  exact ⟨a0, a1, a2, a3, a4, a5, a6, a7, a8, ⟨l0, l1, l2, l3, l4, l5, l6, l7, l8, l9, l10, (by show ((ga 11).set j v).length = _; rw [List.length_set]; exact l11), l12, l13, l14⟩, e0, e1, e2, e3, e4, e5, e6, e7, e8, e13, e14⟩
theorem pm_Rg.s13 {gi : Nat → Int32} {ga : Nat → List Int32} (h : pm_Rg gi ga) {j : Nat} {v : Int32} (hv : pm_rng v 1 20) : pm_Rg gi (pm_uA ga 13 ((ga 13).set j v)) := by
  obtain ⟨a0, a1, a2, a3, a4, a5, a6, a7, a8, ⟨l0, l1, l2, l3, l4, l5, l6, l7, l8, l9, l10, l11, l12, l13, l14⟩, e0, e1, e2, e3, e4, e5, e6, e7, e8, e13, e14⟩ := h
  exact ⟨a0, a1, a2, a3, a4, a5, a6, a7, a8, ⟨l0, l1, l2, l3, l4, l5, l6, l7, l8, l9, l10, l11, l12, (by show ((ga 13).set j v).length = _; rw [List.length_set]; exact l13), l14⟩, e0, e1, e2, e3, e4, e5, e6, e7, e8, (fun x hx => by rcases List.mem_or_eq_of_mem_set (show x ∈ (ga 13).set j v from hx) with g | g; exact e13 x g; rw [g]; exact hv), e14⟩
theorem pm_Rg.s14 {gi : Nat → Int32} {ga : Nat → List Int32} (h : pm_Rg gi ga) {j : Nat} {v : Int32} (hv : pm_rng v 1 20) : pm_Rg gi (pm_uA ga 14 ((ga 14).set j v)) := by
  obtain ⟨a0, a1, a2, a3, a4, a5, a6, a7, a8, ⟨l0, l1, l2, l3, l4, l5, l6, l7, l8, l9, l10, l11, l12, l13, l14⟩, e0, e1, e2, e3, e4, e5, e6, e7, e8, e13, e14⟩ := h
  exact ⟨a0, a1, a2, a3, a4, a5, a6, a7, a8, ⟨l0, l1, l2, l3, l4, l5, l6, l7, l8, l9, l10, l11, l12, l13, (by show ((ga 14).set j v).length = _; rw [List.length_set]; exact l14)⟩, e0, e1, e2, e3, e4, e5, e6, e7, e8, e13, (fun x hx => by rcases List.mem_or_eq_of_mem_set (show x ∈ (ga 14).set j v from hx) with g | g; exact e14 x g; rw [g]; exact hv)⟩
theorem pm_work_ar {gi : Nat → Int32} {ga : Nat → List Int32} {o : Int32} (hR : pm_Rg gi ga) (h0 : 0 ≤ o.toInt) (h1 : o.toInt < 12) : (gi 5 + pm_dn gi ga o (gi 6)).toInt = (gi 5).toInt + (pm_dn gi ga o (gi 6)).toInt ∧ (3000 - gi 5).toInt = 3000 - (gi 5).toInt ∧ 0 ≤ (pm_dn gi ga o (gi 6)).toInt ∧ (pm_dn gi ga o (gi 6)).toInt ≤ 138 := by
  obtain ⟨a, -, ha, ea⟩ := i_ofn (a := 0) (b := 3000) hR.n5
  obtain ⟨j, hj, ej⟩ := pm_dn_rng (l := gi 6) hR h0 h1
  rw [ej, ea, nI_add, show (3000 : Int32) = nI 3000 from rfl, pk_sub_toInt (by omega) (by omega), nI_toInt (by omega), nI_toInt (by omega), nI_toInt (by omega)]
  omega
theorem i_sub {x y : Int32} (hx : pm_rng x 0 100000) (hy : pm_rng y 0 100000) : (x - y).toInt = x.toInt - y.toInt := by
  obtain ⟨a, -, ha, ea⟩ := i_ofn (a := 0) (b := 100000) hx
  obtain ⟨b, -, hb, eb⟩ := i_ofn (a := 0) (b := 100000) hy
  rw [ea, eb, pk_sub_toInt (by omega) (by omega), nI_toInt (by omega), nI_toInt (by omega)]
noncomputable def pm_late (ga : Nat → List Int32) (o dy : Int32) : Int32 := if (ga 2).getD o.toNatClampNeg 0 < dy then dy - (ga 2).getD o.toNatClampNeg 0 else 0
noncomputable def sp_work (gi : Nat → Int32) (ga : Nat → List Int32) (o : Int32) : pm_G := if ¬ (0 ≤ o.toInt ∧ o.toInt < (gi 7).toInt) then pm_no gi ga (-1) else if ¬ ((ga 3).getD o.toNatClampNeg 0).toInt < 0 then pm_no gi ga (-3) else if 3000 < (gi 5).toInt + (pm_dn gi ga o (gi 6)).toInt then pm_no gi ga (-6) else
  (pm_late ga o (gi 5 + pm_dn gi ga o (gi 6)), pm_uI (pm_uI gi 5 (gi 5 + pm_dn gi ga o (gi 6))) 6 ((ga 1).getD o.toNatClampNeg 0), pm_uA ga 3 ((ga 3).set o.toNatClampNeg (gi 5 + pm_dn gi ga o (gi 6))))
set_option maxRecDepth 100000 in
theorem c_weaveOrder {sc : pm_S} {w : pm_W} {gi : Nat → Int32} {ga : Nat → List Int32} (o : Int32) (h0 : 0 ≤ o.toInt) (h1 : o.toInt < 12) (hR : pm_Rg gi ga) (hd3 : (gi 5).toInt + (pm_dn gi ga o (gi 6)).toInt ≤ 3000) (hI : pm_IX gi ga w) : pm_Mt sc 2 59 2 [.ref 27, .int o] w (pm_PX w (pm_late ga o (gi 5 + pm_dn gi ga o (gi 6)), (pm_uI (pm_uI gi 5 (gi 5 + pm_dn gi ga o (gi 6))) 6 ((ga 1).getD o.toNatClampNeg 0)), pm_uA ga 3 ((ga 3).set o.toNatClampNeg (gi 5 + pm_dn gi ga o (gi 6))))) := by
  intro d hd
  show pm_V sc d 59 0 _ [] w _
  have hh : pm_hi w w := pm_hi.rf
  obtain ⟨w1a, w2a, w3a, w4a⟩ := pm_work_ar hR h0 h1
  have q1 := hR.l1
  have q3 := hR.l3
  have q5 := hR.n5
  have due := hR.r2 _ (pm_mem_getD (k := o.toNatClampNeg) (by rw [i_cl, hR.l2]; omega))
  have lotr := hR.r1 _ (pm_mem_getD (k := o.toNatClampNeg) (by rw [i_cl, hR.l1]; omega))
  have dayr : pm_rng (gi 5 + pm_dn gi ga o (gi 6)) 0 3000 := ⟨by rw [w1a]; have := q5.1; omega, by rw [w1a]; omega⟩
  have h27 : _ = some _ := hI.2 27 (by decide)
  have h29 : _ = some _ := hI.2 29 (by decide)
  have h31 : _ = some _ := hI.2 31 (by decide)
  refine v_aload_n rfl rfl ?_
  refine v_dup rfl rfl ?_
  refine v_get rfl h27 rfl ?_
  refine v_aload_n rfl rfl ?_
  refine v_iload_n rfl rfl ?_
  refine v_aload_n rfl rfl ?_
  refine v_get rfl h27 rfl ?_
  refine v_callV rfl (c_daysFor o h0 h1 hR hI (gi 6)) rfl rfl h27 rfl rfl (by omega) (fun rv w1 hq => ?_)
  obtain ⟨rfl, rfl⟩ := hq
  refine v_iadd rfl ?_
  refine v_put rfl h27 rfl (Nat.le_of_ble_eq_true rfl) ?_
  refine v_forget (P := fun u => pm_IX (pm_uI gi 5 (gi 5 + pm_dn gi ga o (gi 6))) (ga) u ∧ pm_hi w u) ⟨hI.uI 27 5 (by decide +kernel) (by decide +kernel) rfl, hh.set (by decide) _⟩ (fun w1 hw1 => ?_)
  obtain ⟨hI, hh⟩ := hw1
  have h27 : _ = some _ := hI.2 27 (by decide)
  have h29 : _ = some _ := hI.2 29 (by decide)
  have h31 : _ = some _ := hI.2 31 (by decide)
  refine v_aload_n rfl rfl ?_
  refine v_aload_n rfl rfl ?_
  refine v_get rfl h27 rfl ?_
  refine v_iload_n rfl rfl ?_
  refine v_iaload rfl h29 (by rw [i_lt, i_0]; omega) (pm_gD (d := 0) (by rw [i_cl, q1]; omega)) ?_
  refine v_put rfl h27 rfl (Nat.le_of_ble_eq_true rfl) ?_
  refine v_forget (P := fun u => pm_IX (pm_uI (pm_uI gi 5 (gi 5 + pm_dn gi ga o (gi 6))) 6 ((ga 1).getD o.toNatClampNeg 0)) (ga) u ∧ pm_hi w u) ⟨hI.uI 27 6 (by decide +kernel) (by decide +kernel) rfl, hh.set (by decide) _⟩ (fun w1 hw1 => ?_)
  obtain ⟨hI, hh⟩ := hw1
  have h27 : _ = some _ := hI.2 27 (by decide)
  have h29 : _ = some _ := hI.2 29 (by decide)
  have h31 : _ = some _ := hI.2 31 (by decide)
  refine v_aload_n rfl rfl ?_
  refine v_get rfl h27 rfl ?_
  refine v_iload_n rfl rfl ?_
  refine v_aload_n rfl rfl ?_
  refine v_get rfl h27 rfl ?_
  refine v_iastore rfl h31 (by rw [i_lt, i_0]; omega) (by rw [i_cl, q3]; omega) ?_
  refine v_forget (P := fun u => pm_IX (pm_uI (pm_uI gi 5 (gi 5 + pm_dn gi ga o (gi 6))) 6 ((ga 1).getD o.toNatClampNeg 0)) (pm_uA ga 3 ((ga 3).set o.toNatClampNeg (gi 5 + pm_dn gi ga o (gi 6)))) u ∧ pm_hi w u) ⟨hI.uA 31 3 (by decide +kernel) (by decide +kernel) rfl, hh.set (by decide) _⟩ (fun w1 hw1 => ?_)
  obtain ⟨hI, hh⟩ := hw1
  have h27 : _ = some _ := hI.2 27 (by decide)
  refine v_aload_n rfl rfl ?_
  refine v_iload_n rfl rfl ?_
  refine v_aload_n rfl rfl ?_
  refine v_get rfl h27 rfl ?_
  have hR2 : pm_Rg (pm_uI (pm_uI gi 5 (gi 5 + pm_dn gi ga o (gi 6))) 6 ((ga 1).getD o.toNatClampNeg 0)) (pm_uA ga 3 ((ga 3).set o.toNatClampNeg (gi 5 + pm_dn gi ga o (gi 6)))) := ((hR.u5 dayr).u6 ⟨by have := lotr.1; omega, lotr.2⟩).s3 ⟨by have := dayr.1; omega, dayr.2⟩
  refine v_callV rfl (c_lateOf o h0 h1 hR2 hI (gi 5 + pm_dn gi ga o (gi 6))) rfl rfl h27 rfl rfl (by omega) (fun rv w1 hq => ?_)
  obtain ⟨rfl, rfl⟩ := hq
  exact v_iret rfl ⟨by
    show some (Value.int (if 0 < (gi 5 + pm_dn gi ga o (gi 6)) - (ga 2).getD o.toNatClampNeg 0 then (gi 5 + pm_dn gi ga o (gi 6)) - (ga 2).getD o.toNatClampNeg 0 else 0)) = some (.int (pm_late ga o (gi 5 + pm_dn gi ga o (gi 6))))
    unfold pm_late
    have es := i_sub (x := (gi 5 + pm_dn gi ga o (gi 6))) (y := (ga 2).getD o.toNatClampNeg 0) ⟨dayr.1, by have := dayr.2; omega⟩ ⟨due.1, by have := due.2; omega⟩
    by_cases hz : (ga 2).getD o.toNatClampNeg 0 < (gi 5 + pm_dn gi ga o (gi 6))
    · rw [if_pos hz, if_pos (by rw [i_lt] at hz ⊢; rw [es, i_0]; omega)]
    · rw [if_neg hz, if_neg (by rw [i_lt] at hz ⊢; rw [es, i_0]; omega)], hI, hh⟩
set_option maxRecDepth 100000 in
theorem c_X_work {sc : pm_S} {w : pm_W} {gi : Nat → Int32} {ga : Nat → List Int32} (o : Int32) (hR : pm_Rg gi ga) (hI : pm_IX gi ga w) : pm_Mt sc 3 95 2 [.ref 0, .int o] w (pm_PX w (sp_work gi ga o)) := by
  intro d hd
  show pm_V sc d 95 0 _ [] w _
  have hh : pm_hi w w := pm_hi.rf
  obtain ⟨n0, n1⟩ := hR.n7
  obtain ⟨v6, c6, h0⟩ := hI.2 0 (by decide)
  have h27 : _ = some _ := hI.2 27 (by decide)
  obtain ⟨v0, v1, v2, c0, c2, h32⟩ := hI.2 32 (by decide)
  refine v_iload_n rfl rfl ?_
  refine v_aload_n rfl rfl ?_
  refine v_get rfl h0 rfl ?_
  refine v_get rfl h27 rfl ?_
  refine v_callS rfl (c_isPlace o (gi 7) w) rfl rfl rfl rfl rfl (by omega) (fun rv w1 hq => ?_)
  obtain ⟨rfl, rfl⟩ := hq
  by_cases ha : 0 ≤ o.toInt ∧ o.toInt < (gi 7).toInt
  · rw [pm_b_1 ha]
    refine v_if_ne rfl (fun _ => ?_) (fun h => absurd h (by decide))
    have h0o := ha.1
    have h1o : o.toInt < 12 := by omega
    obtain ⟨w1a, w2a, w3a, w4a⟩ := pm_work_ar hR h0o h1o
    refine v_aload_n rfl rfl ?_
    refine v_get rfl h0 rfl ?_
    refine v_iload_n rfl rfl ?_
    refine v_callV rfl (c_isOpen o h0o h1o hR hI) rfl rfl h27 rfl rfl (by omega) (fun rv w1 hq => ?_)
    obtain ⟨rfl, rfl⟩ := hq
    by_cases hop : ((ga 3).getD o.toNatClampNeg 0).toInt < 0
    · rw [pm_b_1 hop]
      refine v_if_ne rfl (fun _ => ?_) (fun h => absurd h (by decide))
      refine v_aload_n rfl rfl ?_
      refine v_get rfl h0 rfl ?_
      refine v_get rfl h27 rfl ?_
      refine v_aload_n rfl rfl ?_
      refine v_get rfl h0 rfl ?_
      refine v_iload_n rfl rfl ?_
      refine v_aload_n rfl rfl ?_
      refine v_get rfl h0 rfl ?_
      refine v_get rfl h27 rfl ?_
      refine v_callV rfl (c_daysFor o h0o h1o hR hI (gi 6)) rfl rfl h27 rfl rfl (by omega) (fun rv w1 hq => ?_)
      obtain ⟨rfl, rfl⟩ := hq
      refine v_iadd rfl ?_
      refine v_sipush (v := 3000) rfl (by decide) ?_
      refine v_icmp_le rfl (fun t64 => ?_) (fun t64 => ?_)
      · refine v_aload_n rfl rfl ?_
        refine v_get rfl h0 rfl ?_
        refine v_iconst (v := 0) rfl (by decide) ?_
        refine v_put rfl h32 rfl (Nat.le_of_ble_eq_true rfl) ?_
        refine v_forget (P := fun u => pm_IX gi ga u ∧ pm_hi w u) ⟨hI.set 32 (by decide) ⟨0, v1, v2, Or.inl rfl, c2, rfl⟩, hh.set (by decide) _⟩ (fun w1 hw1 => ?_)
        obtain ⟨hI, hh⟩ := hw1
        obtain ⟨v6, c6, h0⟩ := hI.2 0 (by decide)
        have h27 : _ = some _ := hI.2 27 (by decide)
        refine v_aload_n rfl rfl ?_
        refine v_get rfl h0 rfl ?_
        refine v_iload_n rfl rfl ?_
        have hd3 : (gi 5).toInt + (pm_dn gi ga o (gi 6)).toInt ≤ 3000 := by rw [i_le, w1a, i_3000] at t64; exact t64
        refine v_callV rfl (c_weaveOrder o h0o h1o hR hd3 hI) rfl rfl h27 rfl rfl (by omega) (fun rv w1 hq => ?_)
        obtain ⟨rfl, g1, g2⟩ := hq
        exact v_iret rfl (by show pm_PX _ _ _ _; unfold sp_work; rw [if_neg (fun h => h ha), if_neg (fun h => h hop), if_neg (by omega)]; exact ⟨rfl, g1, hh.tr g2⟩)
      · refine v_aload_n rfl rfl ?_
        refine v_bipush (v := (-6)) rfl (by decide) ?_
        refine v_callV rfl (c_X_refuse (-6) (by unfold pm_isR; decide) hR hI) rfl rfl h0 rfl rfl (by omega) (fun rv w1 hq => ?_)
        obtain ⟨rfl, g1, g2⟩ := hq
        exact v_iret rfl (by show pm_PX _ _ _ _; unfold sp_work; rw [if_neg (fun h => h ha), if_neg (fun h => h hop), if_pos (by rw [i_le, w1a, i_3000] at t64; omega)]; exact ⟨rfl, g1, hh.tr g2⟩)
    · rw [pm_b_0 hop]
      refine v_if_ne rfl (fun h => absurd h (by decide)) (fun _ => ?_)
      refine v_aload_n rfl rfl ?_
      refine v_bipush (v := (-3)) rfl (by decide) ?_
      refine v_callV rfl (c_X_refuse (-3) (by unfold pm_isR; decide) hR hI) rfl rfl h0 rfl rfl (by omega) (fun rv w1 hq => ?_)
      obtain ⟨rfl, g1, g2⟩ := hq
      exact v_iret rfl (by show pm_PX _ _ _ _; unfold sp_work; rw [if_neg (fun h => h ha), if_pos hop]; exact ⟨rfl, g1, hh.tr g2⟩)
  · rw [pm_b_0 ha]
    refine v_if_ne rfl (fun h => absurd h (by decide)) (fun _ => ?_)
    refine v_aload_n rfl rfl ?_
    refine v_iconst (v := (-1)) rfl (by decide) ?_
    refine v_callV rfl (c_X_refuse (-1) (by unfold pm_isR; decide) hR hI) rfl rfl h0 rfl rfl (by omega) (fun rv w1 hq => ?_)
    obtain ⟨rfl, g1, g2⟩ := hq
    exact v_iret rfl (by show pm_PX _ _ _ _; unfold sp_work; rw [if_pos ha]; exact ⟨rfl, g1, hh.tr g2⟩)
set_option maxRecDepth 100000 in
theorem c_M_work {sc : pm_S} {w : pm_W} {gi : Nat → Int32} {ga : Nat → List Int32} (o : Int32) (hR : pm_Rg gi ga) (hI : pm_IM gi ga w) : pm_Mt sc 1 169 4 [.ref 59, .int o] w (pm_PM w (sp_work gi ga o)) := by
  intro d hd
  show pm_V sc d 169 0 _ [] w _
  have hh : pm_lo w w := pm_lo.rf
  obtain ⟨n0, n1⟩ := hR.n7
  obtain ⟨n8, n8b⟩ := hR.n8
  have q0 := hR.l0
  have q1 := hR.l1
  have q2 := hR.l2
  have q3 := hR.l3
  have q5l := hR.l5
  obtain ⟨v4, v5, v6, v14, v35, v39, v40, v42, c4, c5, c6, c35, c42, h59⟩ := hI.2.1 59 (by decide) (by decide)
  have h64 : _ = some _ := hI.2.1 64 (by decide) (by decide)
  have h65 : _ = some _ := hI.2.1 65 (by decide) (by decide)
  have h66 : _ = some _ := hI.2.1 66 (by decide) (by decide)
  have h67 : _ = some _ := hI.2.1 67 (by decide) (by decide)
  have h69 : _ = some _ := hI.2.1 69 (by decide) (by decide)
  refine v_iload_n rfl rfl ?_
  refine v_iconst (v := 0) rfl (by decide) ?_
  refine v_aload_n rfl rfl ?_
  refine v_get rfl h59 rfl ?_
  refine v_iconst (v := 1) rfl (by decide) ?_
  refine v_isub rfl ?_
  refine v_callS rfl (c_in o 0 (gi 7 - 1) w) rfl rfl rfl rfl rfl (by omega) (fun rv w1 hq => ?_)
  obtain ⟨rfl, rfl⟩ := hq
  by_cases ha : 0 ≤ o.toInt ∧ o.toInt < (gi 7).toInt
  · rw [pm_b_1 (show (0 : Int32).toInt ≤ o.toInt ∧ o.toInt ≤ (gi 7 - 1).toInt from ⟨ha.1, by rw [i_sub1 n0 (by omega)]; omega⟩)]
    refine v_if_ne rfl (fun _ => ?_) (fun h => absurd h (by decide))
    have h0 := ha.1
    have h1 : o.toInt < 12 := by omega
    obtain ⟨w1a, w2a, w3a, w4a⟩ := pm_work_ar hR h0 h1
    have q5 := hR.n5
    have due := hR.r2 _ (pm_mem_getD (k := o.toNatClampNeg) (by rw [i_cl, hR.l2]; omega))
    have lotr := hR.r1 _ (pm_mem_getD (k := o.toNatClampNeg) (by rw [i_cl, hR.l1]; omega))
    refine v_aload_n rfl rfl ?_
    refine v_get rfl h59 rfl ?_
    refine v_iload_n rfl rfl ?_
    refine v_iaload rfl h67 (by rw [i_lt, i_0]; omega) (pm_gD (d := 0) (by rw [i_cl, q3]; omega)) ?_
    refine v_if_lt rfl (fun t26 => ?_) (fun t26 => ?_)
    · refine v_aload_n rfl rfl ?_
      refine v_iload_n rfl rfl ?_
      refine v_aload_n rfl rfl ?_
      refine v_get rfl h59 rfl ?_
      refine v_callV rfl (c_daysOf o h0 h1 hR hI (gi 6)) rfl rfl h59 rfl rfl (by omega) (fun rv w1 hq => ?_)
      obtain ⟨rfl, rfl⟩ := hq
      refine v_istore_n rfl (Nat.le_of_ble_eq_true rfl) ?_
      refine v_iload_n rfl rfl ?_
      refine v_sipush (v := 3000) rfl (by decide) ?_
      refine v_aload_n rfl rfl ?_
      refine v_get rfl h59 rfl ?_
      refine v_isub rfl ?_
      refine v_icmp_le rfl (fun t55 => ?_) (fun t55 => ?_)
      · have hd3 : (gi 5).toInt + (pm_dn gi ga o (gi 6)).toInt ≤ 3000 := by rw [i_le, w2a] at t55; omega
        have dayr : pm_rng (gi 5 + pm_dn gi ga o (gi 6)) 0 3000 := ⟨by rw [w1a]; have := q5.1; omega, by rw [w1a]; omega⟩
        refine v_aload_n rfl rfl ?_
        refine v_dup rfl rfl ?_
        refine v_get rfl h59 rfl ?_
        refine v_iload_n rfl rfl ?_
        refine v_iadd rfl ?_
        refine v_put rfl h59 rfl (Nat.le_of_ble_eq_true rfl) ?_
        refine v_forget (P := fun u => pm_IM (pm_uI gi 5 (gi 5 + pm_dn gi ga o (gi 6))) (ga) u ∧ pm_lo w u) ⟨hI.uI 59 5 (by decide +kernel) (by decide +kernel) (by decide +kernel) (by decide +kernel) (by decide +kernel) ⟨_, _, _, _, _, _, _, _, c4, c5, c6, c35, c42, rfl⟩, hh.set (by decide) _⟩ (fun w1 hw1 => ?_)
        obtain ⟨hI, hh⟩ := hw1
        obtain ⟨v4, v5, v6, v14, v35, v39, v40, v42, c4, c5, c6, c35, c42, h59⟩ := hI.2.1 59 (by decide) (by decide)
        have h64 : _ = some _ := hI.2.1 64 (by decide) (by decide)
        have h65 : _ = some _ := hI.2.1 65 (by decide) (by decide)
        have h66 : _ = some _ := hI.2.1 66 (by decide) (by decide)
        have h67 : _ = some _ := hI.2.1 67 (by decide) (by decide)
        have h69 : _ = some _ := hI.2.1 69 (by decide) (by decide)
        refine v_aload_n rfl rfl ?_
        refine v_get rfl h59 rfl ?_
        refine v_iload_n rfl rfl ?_
        refine v_aload_n rfl rfl ?_
        refine v_get rfl h59 rfl ?_
        refine v_iastore rfl h67 (by rw [i_lt, i_0]; omega) (by rw [i_cl, q3]; omega) ?_
        refine v_forget (P := fun u => pm_IM (pm_uI gi 5 (gi 5 + pm_dn gi ga o (gi 6))) (pm_uA ga 3 ((ga 3).set o.toNatClampNeg (gi 5 + pm_dn gi ga o (gi 6)))) u ∧ pm_lo w u) ⟨hI.uA 67 3 (by decide +kernel) (by decide +kernel) (by decide +kernel) (by decide +kernel) (by decide +kernel) rfl, hh.set (by decide) _⟩ (fun w1 hw1 => ?_)
        obtain ⟨hI, hh⟩ := hw1
        obtain ⟨v4, v5, v6, v14, v35, v39, v40, v42, c4, c5, c6, c35, c42, h59⟩ := hI.2.1 59 (by decide) (by decide)
        have h64 : _ = some _ := hI.2.1 64 (by decide) (by decide)
        have h65 : _ = some _ := hI.2.1 65 (by decide) (by decide)
        have h66 : _ = some _ := hI.2.1 66 (by decide) (by decide)
        have h67 : _ = some _ := hI.2.1 67 (by decide) (by decide)
        have h69 : _ = some _ := hI.2.1 69 (by decide) (by decide)
        refine v_aload_n rfl rfl ?_
        refine v_aload_n rfl rfl ?_
        refine v_get rfl h59 rfl ?_
        refine v_iload_n rfl rfl ?_
        refine v_iaload rfl h65 (by rw [i_lt, i_0]; omega) (pm_gD (d := 0) (by rw [i_cl]; show o.toInt.toNat < (ga 1).length; rw [q1]; omega)) ?_
        refine v_put rfl h59 rfl (Nat.le_of_ble_eq_true rfl) ?_
        refine v_forget (P := fun u => pm_IM (pm_uI (pm_uI gi 5 (gi 5 + pm_dn gi ga o (gi 6))) 6 ((ga 1).getD o.toNatClampNeg 0)) (pm_uA ga 3 ((ga 3).set o.toNatClampNeg (gi 5 + pm_dn gi ga o (gi 6)))) u ∧ pm_lo w u) ⟨hI.uI 59 6 (by decide +kernel) (by decide +kernel) (by decide +kernel) (by decide +kernel) (by decide +kernel) ⟨_, _, _, _, _, _, _, _, c4, c5, c6, c35, c42, rfl⟩, hh.set (by decide) _⟩ (fun w1 hw1 => ?_)
        obtain ⟨hI, hh⟩ := hw1
        obtain ⟨v4, v5, v6, v14, v35, v39, v40, v42, c4, c5, c6, c35, c42, h59⟩ := hI.2.1 59 (by decide) (by decide)
        have h64 : _ = some _ := hI.2.1 64 (by decide) (by decide)
        have h65 : _ = some _ := hI.2.1 65 (by decide) (by decide)
        have h66 : _ = some _ := hI.2.1 66 (by decide) (by decide)
        have h67 : _ = some _ := hI.2.1 67 (by decide) (by decide)
        have h69 : _ = some _ := hI.2.1 69 (by decide) (by decide)
        have hR2 : pm_Rg (pm_uI (pm_uI gi 5 (gi 5 + pm_dn gi ga o (gi 6))) 6 ((ga 1).getD o.toNatClampNeg 0)) (pm_uA ga 3 ((ga 3).set o.toNatClampNeg (gi 5 + pm_dn gi ga o (gi 6)))) := ((hR.u5 dayr).u6 ⟨by have := lotr.1; omega, lotr.2⟩).s3 ⟨by have := dayr.1; omega, dayr.2⟩
        refine v_aload_n rfl rfl ?_
        refine v_aload_n rfl rfl ?_
        refine v_get rfl h59 rfl ?_
        refine v_callV rfl (c_X12_lawAt (gi := (pm_uI (pm_uI gi 5 (gi 5 + pm_dn gi ga o (gi 6))) 6 ((ga 1).getD o.toNatClampNeg 0))) (ga := pm_uA ga 3 ((ga 3).set o.toNatClampNeg (gi 5 + pm_dn gi ga o (gi 6)))) (N := (gi 8).toInt.toNat) (i_nI n8) (by omega) hR2 hI (gi 5 + pm_dn gi ga o (gi 6))) rfl rfl h59 rfl rfl (by omega) (fun rv w1 hq => ?_)
        obtain ⟨rfl, rfl⟩ := hq
        have rr := pm_fo_rng (ds := ga 6) (day := (gi 5 + pm_dn gi ga o (gi 6))) (init := -1) (by decide) (gi 8).toInt.toNat (by omega)
        refine v_istore_n rfl (Nat.le_of_ble_eq_true rfl) ?_
        refine v_aload_n rfl rfl ?_
        refine v_dup rfl rfl ?_
        refine v_get rfl h59 rfl ?_
        refine v_iload_n rfl rfl ?_
        refine v_if_ge rfl (fun t110 => ?_) (fun t110 => ?_)
        · refine v_aload_n rfl rfl ?_
          refine v_get rfl h59 rfl ?_
          refine v_iload_n rfl rfl ?_
          refine v_iaload rfl h64 (by rw [i_lt, i_0]; omega) (pm_gD (d := 0) (by rw [i_cl]; show o.toInt.toNat < (ga 0).length; rw [q0]; omega)) ?_
          refine v_aload_n rfl rfl ?_
          refine v_get rfl h59 rfl ?_
          refine v_iload_n rfl rfl ?_
          refine v_iaload rfl h69 (by rw [i_le, i_0] at t110; rw [i_lt, i_0]; exact Int.not_lt.mpr t110) (pm_gD (d := 0) (by rw [i_cl]; show _ < (ga 5).length; rw [q5l]; rw [i_le, i_0] at t110; have rr2 : (pm_fo (pm_uA ga 3 ((ga 3).set o.toNatClampNeg (gi 5 + pm_dn gi ga o (gi 6))) 6) (gi 5 + pm_dn gi ga o (gi 6)) (-1) (gi 8).toInt.toNat).toInt < _ := rr; omega)) ?_
          refine v_imul rfl ?_
          refine v_iadd rfl ?_
          refine v_put rfl h59 rfl (Nat.le_of_ble_eq_true rfl) ?_
          refine v_forget (P := fun u => pm_IM (pm_uI (pm_uI gi 5 (gi 5 + pm_dn gi ga o (gi 6))) 6 ((ga 1).getD o.toNatClampNeg 0)) (pm_uA ga 3 ((ga 3).set o.toNatClampNeg (gi 5 + pm_dn gi ga o (gi 6)))) u ∧ pm_lo w u) ⟨hI.set 59 (by decide) (by decide) (by decide) (by decide) ⟨_, _, _, _, _, _, _, _, c4, c5, c6, c35, c42, rfl⟩, hh.set (by decide) _⟩ (fun w1 hw1 => ?_)
          obtain ⟨hI, hh⟩ := hw1
          obtain ⟨v4, v5, v6, v14, v35, v39, v40, v42, c4, c5, c6, c35, c42, h59⟩ := hI.2.1 59 (by decide) (by decide)
          have h64 : _ = some _ := hI.2.1 64 (by decide) (by decide)
          have h65 : _ = some _ := hI.2.1 65 (by decide) (by decide)
          have h66 : _ = some _ := hI.2.1 66 (by decide) (by decide)
          have h67 : _ = some _ := hI.2.1 67 (by decide) (by decide)
          have h69 : _ = some _ := hI.2.1 69 (by decide) (by decide)
          refine v_aload_n rfl rfl ?_
          refine v_get rfl h59 rfl ?_
          refine v_aload_n rfl rfl ?_
          refine v_get rfl h59 rfl ?_
          refine v_iload_n rfl rfl ?_
          refine v_iaload rfl h66 (by rw [i_lt, i_0]; omega) (pm_gD (d := 0) (by rw [i_cl]; show o.toInt.toNat < (ga 2).length; rw [q2]; omega)) ?_
          refine v_icmp_le rfl (fun t144 => ?_) (fun t144 => ?_)
          · refine v_iconst (v := 0) rfl (by decide) ?_
            exact v_iret rfl (by show pm_PM _ _ _ _; unfold sp_work; rw [if_neg (fun h => h ha), if_neg (fun h => h (by rw [i_lt, i_0] at t26; exact t26)), if_neg (by omega)]; exact ⟨by (first | (show some (Value.int 0) = some (.int (pm_late ga o (gi 5 + pm_dn gi ga o (gi 6)))); unfold pm_late; rw [if_neg (show ¬ _ from fun h => by rw [i_lt] at h; have t2 := t144; rw [i_le] at t2; have t3 : ((gi 5 + pm_dn gi ga o (gi 6))).toInt ≤ ((ga 2).getD o.toNatClampNeg 0).toInt := t2; omega)]; done) | (show some (Value.int ((gi 5 + pm_dn gi ga o (gi 6)) - (ga 2).getD o.toNatClampNeg 0)) = some (.int (pm_late ga o (gi 5 + pm_dn gi ga o (gi 6)))); unfold pm_late; rw [if_pos (show _ from by rw [i_lt]; have t2 := t144; rw [i_le] at t2; have t3 : ¬ ((gi 5 + pm_dn gi ga o (gi 6))).toInt ≤ ((ga 2).getD o.toNatClampNeg 0).toInt := t2; omega)]; done)), hI, hh⟩)
          · refine v_aload_n rfl rfl ?_
            refine v_get rfl h59 rfl ?_
            refine v_aload_n rfl rfl ?_
            refine v_get rfl h59 rfl ?_
            refine v_iload_n rfl rfl ?_
            refine v_iaload rfl h66 (by rw [i_lt, i_0]; omega) (pm_gD (d := 0) (by rw [i_cl]; show o.toInt.toNat < (ga 2).length; rw [q2]; omega)) ?_
            refine v_isub rfl ?_
            refine v_goto rfl ?_
            exact v_iret rfl (by show pm_PM _ _ _ _; unfold sp_work; rw [if_neg (fun h => h ha), if_neg (fun h => h (by rw [i_lt, i_0] at t26; exact t26)), if_neg (by omega)]; exact ⟨by (first | (show some (Value.int 0) = some (.int (pm_late ga o (gi 5 + pm_dn gi ga o (gi 6)))); unfold pm_late; rw [if_neg (show ¬ _ from fun h => by rw [i_lt] at h; have t2 := t144; rw [i_le] at t2; have t3 : ((gi 5 + pm_dn gi ga o (gi 6))).toInt ≤ ((ga 2).getD o.toNatClampNeg 0).toInt := t2; omega)]; done) | (show some (Value.int ((gi 5 + pm_dn gi ga o (gi 6)) - (ga 2).getD o.toNatClampNeg 0)) = some (.int (pm_late ga o (gi 5 + pm_dn gi ga o (gi 6)))); unfold pm_late; rw [if_pos (show _ from by rw [i_lt]; have t2 := t144; rw [i_le] at t2; have t3 : ¬ ((gi 5 + pm_dn gi ga o (gi 6))).toInt ≤ ((ga 2).getD o.toNatClampNeg 0).toInt := t2; omega)]; done)), hI, hh⟩)
        · refine v_iconst (v := 0) rfl (by decide) ?_
          refine v_goto rfl ?_
          refine v_iadd rfl ?_
          refine v_put rfl h59 rfl (Nat.le_of_ble_eq_true rfl) ?_
          refine v_forget (P := fun u => pm_IM (pm_uI (pm_uI gi 5 (gi 5 + pm_dn gi ga o (gi 6))) 6 ((ga 1).getD o.toNatClampNeg 0)) (pm_uA ga 3 ((ga 3).set o.toNatClampNeg (gi 5 + pm_dn gi ga o (gi 6)))) u ∧ pm_lo w u) ⟨hI.set 59 (by decide) (by decide) (by decide) (by decide) ⟨_, _, _, _, _, _, _, _, c4, c5, c6, c35, c42, rfl⟩, hh.set (by decide) _⟩ (fun w1 hw1 => ?_)
          obtain ⟨hI, hh⟩ := hw1
          obtain ⟨v4, v5, v6, v14, v35, v39, v40, v42, c4, c5, c6, c35, c42, h59⟩ := hI.2.1 59 (by decide) (by decide)
          have h64 : _ = some _ := hI.2.1 64 (by decide) (by decide)
          have h65 : _ = some _ := hI.2.1 65 (by decide) (by decide)
          have h66 : _ = some _ := hI.2.1 66 (by decide) (by decide)
          have h67 : _ = some _ := hI.2.1 67 (by decide) (by decide)
          have h69 : _ = some _ := hI.2.1 69 (by decide) (by decide)
          refine v_aload_n rfl rfl ?_
          refine v_get rfl h59 rfl ?_
          refine v_aload_n rfl rfl ?_
          refine v_get rfl h59 rfl ?_
          refine v_iload_n rfl rfl ?_
          refine v_iaload rfl h66 (by rw [i_lt, i_0]; omega) (pm_gD (d := 0) (by rw [i_cl]; show o.toInt.toNat < (ga 2).length; rw [q2]; omega)) ?_
          refine v_icmp_le rfl (fun t144 => ?_) (fun t144 => ?_)
          · refine v_iconst (v := 0) rfl (by decide) ?_
            exact v_iret rfl (by show pm_PM _ _ _ _; unfold sp_work; rw [if_neg (fun h => h ha), if_neg (fun h => h (by rw [i_lt, i_0] at t26; exact t26)), if_neg (by omega)]; exact ⟨by (first | (show some (Value.int 0) = some (.int (pm_late ga o (gi 5 + pm_dn gi ga o (gi 6)))); unfold pm_late; rw [if_neg (show ¬ _ from fun h => by rw [i_lt] at h; have t2 := t144; rw [i_le] at t2; have t3 : ((gi 5 + pm_dn gi ga o (gi 6))).toInt ≤ ((ga 2).getD o.toNatClampNeg 0).toInt := t2; omega)]; done) | (show some (Value.int ((gi 5 + pm_dn gi ga o (gi 6)) - (ga 2).getD o.toNatClampNeg 0)) = some (.int (pm_late ga o (gi 5 + pm_dn gi ga o (gi 6)))); unfold pm_late; rw [if_pos (show _ from by rw [i_lt]; have t2 := t144; rw [i_le] at t2; have t3 : ¬ ((gi 5 + pm_dn gi ga o (gi 6))).toInt ≤ ((ga 2).getD o.toNatClampNeg 0).toInt := t2; omega)]; done)), hI, hh⟩)
          · refine v_aload_n rfl rfl ?_
            refine v_get rfl h59 rfl ?_
            refine v_aload_n rfl rfl ?_
            refine v_get rfl h59 rfl ?_
            refine v_iload_n rfl rfl ?_
            refine v_iaload rfl h66 (by rw [i_lt, i_0]; omega) (pm_gD (d := 0) (by rw [i_cl]; show o.toInt.toNat < (ga 2).length; rw [q2]; omega)) ?_
            refine v_isub rfl ?_
            refine v_goto rfl ?_
            exact v_iret rfl (by show pm_PM _ _ _ _; unfold sp_work; rw [if_neg (fun h => h ha), if_neg (fun h => h (by rw [i_lt, i_0] at t26; exact t26)), if_neg (by omega)]; exact ⟨by (first | (show some (Value.int 0) = some (.int (pm_late ga o (gi 5 + pm_dn gi ga o (gi 6)))); unfold pm_late; rw [if_neg (show ¬ _ from fun h => by rw [i_lt] at h; have t2 := t144; rw [i_le] at t2; have t3 : ((gi 5 + pm_dn gi ga o (gi 6))).toInt ≤ ((ga 2).getD o.toNatClampNeg 0).toInt := t2; omega)]; done) | (show some (Value.int ((gi 5 + pm_dn gi ga o (gi 6)) - (ga 2).getD o.toNatClampNeg 0)) = some (.int (pm_late ga o (gi 5 + pm_dn gi ga o (gi 6)))); unfold pm_late; rw [if_pos (show _ from by rw [i_lt]; have t2 := t144; rw [i_le] at t2; have t3 : ¬ ((gi 5 + pm_dn gi ga o (gi 6))).toInt ≤ ((ga 2).getD o.toNatClampNeg 0).toInt := t2; omega)]; done)), hI, hh⟩)
      · refine v_aload_n rfl rfl ?_
        refine v_bipush (v := (-6)) rfl (by decide) ?_
        refine v_callV rfl (c_M_refuse (-6) (by unfold pm_isR; decide) hR hI) rfl rfl h59 rfl rfl (by omega) (fun rv w1 hq => ?_)
        obtain ⟨rfl, g1, g2⟩ := hq
        exact v_iret rfl (by show pm_PM _ _ _ _; unfold sp_work; rw [if_neg (fun h => h ha), if_neg (fun h => h (by rw [i_lt, i_0] at t26; exact t26)), if_pos (by rw [i_le, w2a] at t55; omega)]; exact ⟨rfl, g1, hh.tr g2⟩)
    · refine v_aload_n rfl rfl ?_
      refine v_bipush (v := (-3)) rfl (by decide) ?_
      refine v_callV rfl (c_M_refuse (-3) (by unfold pm_isR; decide) hR hI) rfl rfl h59 rfl rfl (by omega) (fun rv w1 hq => ?_)
      obtain ⟨rfl, g1, g2⟩ := hq
      exact v_iret rfl (by show pm_PM _ _ _ _; unfold sp_work; rw [if_neg (fun h => h ha), if_pos (by rw [i_lt, i_0] at t26; exact t26)]; exact ⟨rfl, g1, hh.tr g2⟩)
  · rw [pm_b_0 (show ¬ ((0 : Int32).toInt ≤ o.toInt ∧ o.toInt ≤ (gi 7 - 1).toInt) from fun h => ha ⟨h.1, by have := h.2; rw [i_sub1 n0 (by omega)] at this; omega⟩)]
    refine v_if_ne rfl (fun h => absurd h (by decide)) (fun _ => ?_)
    refine v_aload_n rfl rfl ?_
    refine v_iconst (v := (-1)) rfl (by decide) ?_
    refine v_callV rfl (c_M_refuse (-1) (by unfold pm_isR; decide) hR hI) rfl rfl h59 rfl rfl (by omega) (fun rv w1 hq => ?_)
    obtain ⟨rfl, g1, g2⟩ := hq
    exact v_iret rfl (by show pm_PM _ _ _ _; unfold sp_work; rw [if_pos ha]; exact ⟨rfl, g1, hh.tr g2⟩)

