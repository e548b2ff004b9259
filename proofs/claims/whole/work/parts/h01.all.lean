/-! ===== all calls ===== -/
theorem pr_all : am_all pr_Rel := ⟨po_0, po_1, po_2, po_3, po_4, po_5, po_6, po_7, po_8, po_9, po_10, po_11, po_12, po_13, po_14, po_15, po_16, po_17, po_18, po_19, po_20, po_21, po_22, po_23, po_24, po_25, po_26, po_27, po_28, po_29, po_30, po_31, po_32, po_33, po_34, po_35, po_36, po_37, po_38, po_39, po_40, po_41, po_42, po_43, po_44, po_45, po_46, po_47, po_48⟩
