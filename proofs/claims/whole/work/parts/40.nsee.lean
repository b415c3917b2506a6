/-! ===== the throw of NoSuchElementException ===== -/
theorem zatN_in : ∀ w ∈ zatN.filter goodWord, w ∈ lw_tbl := by decide +kernel
theorem zbadN : ∀ w ∈ zatN.filter (fun w => !goodWord w), w ∈ zBad "java/util/NoSuchElementException" := by decide +kernel
theorem zotN : ∀ w ∈ zatN, vx_ot w = true := by decide +kernel
