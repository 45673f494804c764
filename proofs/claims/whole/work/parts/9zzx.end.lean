/-! ===== the claim ===== -/
theorem i_vc : Claimed_1_1 ∧ Claimed_1_2 := i_vc_of ⟨Rel, ⟨sm_feed, sm_house, sm_fault, sm_count, sm_tenant, sm_lease, sm_judge, sm_undo, sm_in, sm_swing, sm_slow, sm_slowBy, sm_house4, sm_housed, sm_cuckoo, sm_visits, sm_visit, sm_rent, sm_shared, sm_offer, sm_sublet, sm_wedding, sm_birthday, sm_both, sm_wind, sm_image, sm_restore⟩, rel_init⟩
