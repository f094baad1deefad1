/-! scratch: axioms -/
#print axioms all_step
#print axioms start_PPX
theorem scratch_false (hW8 : 8 ≤ 7) : PPX 7 9 (m0 7 9) := start_PPX (by omega) (by decide) (by decide) (by decide)
theorem scratch_false2 {mm : zMem} (h : PB 10 10 mm) : ∃ mq : zMem, lawS (sh0 10 10) mm 13 0 0 0 0 0 = some mq ∧ PPX 10 10 mq := all_step (by decide) (by decide) (by decide) (by decide) 13 0 0 0 0 0 h
