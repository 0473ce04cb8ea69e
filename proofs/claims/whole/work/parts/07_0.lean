theorem ad_in {μ : Mg} {a : Nat} (hM : μ.1 0 = nI a) (ha : a ≤ 60) (h : ¬ μ.1 0 = 60) : vp_in (μ.1 0) 60 := by
  rw [hM] at h ⊢
  refine vp_in_nI ?_ (by omega)
  have h2 : a ≠ 60 := fun q => h (by rw [q]; rfl)
  omega
