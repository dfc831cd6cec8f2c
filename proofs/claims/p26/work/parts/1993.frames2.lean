-- the views over these frames
theorem KC_sk {a b : GS} {v : GV} (F : gSk a b) (K : KC a v) : KC b v := KC_sm F.m K
theorem KM_sk {a b : GS} {v : GV} (F : gSk a b) (K : KM a v) : KM b v := KM_sm F.m K
theorem KC_sn {a b : GS} {v : GV} (F : gSn a b) (K : KC a v) : KC b v := KC_sm F.m K
theorem KM_sn {a b : GS} {v : GV} (F : gSn a b) (K : KM a v) : KM b v := KM_sm F.m K
theorem mB_sn {σ s : GS} (h : gSn σ s) (u : Nat) : mB s u = mB σ u := mB_s h.m u
theorem mT_sn {σ s : GS} (h : gSn σ s) (u : Nat) : mT s u = mT σ u := mT_s h.m u
