/-! what each throw wants of the tables -/
theorem tx_X12_144_4n : ∀ w ∈ (vx_atS RX12 144 (exN 4) exNm).filter (fun w => !goodWord w), w ∈ exW := by decide +kernel
theorem tx_X12_144_4g : ∀ w ∈ Cond.classLink RX12 140 (exN 4) :: Cond.initialized (exN 4) :: vx_atS RX12 144 (exN 4) exNm, vx_ot w = true := by decide +kernel
theorem tx_X12_191_3n : ∀ w ∈ (vx_atS RX12 191 (exN 3) exNm).filter (fun w => !goodWord w), w ∈ exW := by decide +kernel
theorem tx_X12_191_3g : ∀ w ∈ Cond.classLink RX12 187 (exN 3) :: Cond.initialized (exN 3) :: vx_atS RX12 191 (exN 3) exNm, vx_ot w = true := by decide +kernel
theorem tx_X12_307_1n : ∀ w ∈ (vx_atS RX12 307 (exN 1) exNm).filter (fun w => !goodWord w), w ∈ exW := by decide +kernel
theorem tx_X12_307_1g : ∀ w ∈ Cond.classLink RX12 303 (exN 1) :: Cond.initialized (exN 1) :: vx_atS RX12 307 (exN 1) exNm, vx_ot w = true := by decide +kernel
theorem tx_X12_382_5n : ∀ w ∈ (vx_atS RX12 382 (exN 5) exNm).filter (fun w => !goodWord w), w ∈ exW := by decide +kernel
theorem tx_X12_382_5g : ∀ w ∈ Cond.classLink RX12 378 (exN 5) :: Cond.initialized (exN 5) :: vx_atS RX12 382 (exN 5) exNm, vx_ot w = true := by decide +kernel
theorem tx_X12_82_2n : ∀ w ∈ (vx_atS RX12 82 (exN 2) exNm).filter (fun w => !goodWord w), w ∈ exW := by decide +kernel
theorem tx_X12_82_2g : ∀ w ∈ Cond.classLink RX12 78 (exN 2) :: Cond.initialized (exN 2) :: vx_atS RX12 82 (exN 2) exNm, vx_ot w = true := by decide +kernel
