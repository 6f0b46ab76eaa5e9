/-! DECODE ROWS, written by wip/gen/emit5.py -/
def zdf (c : ByteArray) (l : zIs) : Bool := l.all (fun e => decide (decode c e.1 = .ok (e.2.1, e.2.2.1)))
theorem zdf_cut {c : ByteArray} {l : zIs} (n : Nat) (h1 : zdf c (l.take n) = true) (h2 : zdf c (l.drop n) = true) : zdf c l = true := by
  unfold zdf at *
  rw [← List.take_append_drop n l, List.all_append, h1, h2]
  rfl
def zsq : zIs → Bool
  | [] => true
  | e :: r => (match r with | [] => true | f :: _ => f.1 == e.1 + e.2.2.1) && zsq r
theorem zd_0 : zdf cX0_init zi_0 = true := (by decide +kernel)
theorem zq_0 : zsq zi_0 = true := by decide +kernel
theorem zd_1 : zdf cX0_available zi_1 = true := (by decide +kernel)
theorem zq_1 : zsq zi_1 = true := by decide +kernel
theorem zd_2 : zdf cX0_balanceOf zi_2 = true := (by decide +kernel)
theorem zq_2 : zsq zi_2 = true := by decide +kernel
theorem zd_3 : zdf cX0_reservedOn zi_3 = true := (by decide +kernel)
theorem zq_3 : zsq zi_3 = true := by decide +kernel
theorem zd_4 : zdf cX0_entriesOf zi_4 = true := (by decide +kernel)
theorem zq_4 : zsq zi_4 = true := by decide +kernel
theorem zd_5 : zdf cX0_entryAt zi_5 = true := (by decide +kernel)
theorem zq_5 : zsq zi_5 = true := by decide +kernel
theorem zd_6 : zdf cX0_reserve zi_6 = true := (by decide +kernel)
theorem zq_6 : zsq zi_6 = true := by decide +kernel
theorem zd_7 : zdf cX0_book zi_7 = true := (by decide +kernel)
theorem zq_7 : zsq zi_7 = true := by decide +kernel
theorem zd_8 : zdf cX0_has zi_8 = true := (by decide +kernel)
theorem zq_8 : zsq zi_8 = true := by decide +kernel
theorem zd_9 : zdf cX1_init zi_9 = true := (by decide +kernel)
theorem zq_9 : zsq zi_9 = true := by decide +kernel
theorem zd_10 : zdf cX1_compose zi_10 = true := (by decide +kernel)
theorem zq_10 : zsq zi_10 = true := by decide +kernel
theorem zd_11 : zdf cX1_addRow zi_11 = true := (by decide +kernel)
theorem zq_11 : zsq zi_11 = true := by decide +kernel
theorem zd_12 : zdf cX1_addBegin zi_12 = true := (by decide +kernel)
theorem zq_12 : zsq zi_12 = true := by decide +kernel
theorem zd_13 : zdf cX1_addEnd zi_13 = true := (by decide +kernel)
theorem zq_13 : zsq zi_13 = true := by decide +kernel
theorem zd_14 : zdf cX1_addValue zi_14 = true := (by decide +kernel)
theorem zq_14 : zsq zi_14 = true := by decide +kernel
theorem zd_15 : zdf cX1_addName zi_15 = true := (by decide +kernel)
theorem zq_15 : zsq zi_15 = true := by decide +kernel
theorem zd_16 : zdf cX1_addNumber zi_16 = true := (by decide +kernel)
theorem zq_16 : zsq zi_16 = true := by decide +kernel
theorem zd_17 : zdf cX1_addTwoDigits zi_17 = true := (by decide +kernel)
theorem zq_17 : zsq zi_17 = true := by decide +kernel
theorem zd_18 : zdf cX2_init zi_18 = true := (by decide +kernel)
theorem zq_18 : zsq zi_18 = true := by decide +kernel
theorem zd_19 : zdf cX2_knows zi_19 = true := (by decide +kernel)
theorem zq_19 : zsq zi_19 = true := by decide +kernel
theorem zd_20 : zdf cX2_knowsAnyOf zi_20 = true := (by decide +kernel)
theorem zq_20 : zsq zi_20 = true := by decide +kernel
theorem zd_21 : zdf cX2_canPay zi_21 = true := (by decide +kernel)
theorem zq_21 : zsq zi_21 = true := by decide +kernel
theorem zd_22 : zdf cX2_take zi_22 = true := (zdf_cut 40 (by decide +kernel) (by decide +kernel))
theorem zq_22 : zsq zi_22 = true := by decide +kernel
theorem zd_23 : zdf cX2_hold zi_23 = true := (by decide +kernel)
theorem zq_23 : zsq zi_23 = true := by decide +kernel
theorem zd_24 : zdf cX2_letWait zi_24 = true := (by decide +kernel)
theorem zq_24 : zsq zi_24 = true := by decide +kernel
theorem zd_25 : zdf cX2_reject zi_25 = true := (by decide +kernel)
theorem zq_25 : zsq zi_25 = true := by decide +kernel
theorem zd_26 : zdf cX2_receive zi_26 = true := (by decide +kernel)
theorem zq_26 : zsq zi_26 = true := by decide +kernel
theorem zd_27 : zdf cX2_answer zi_27 = true := (by decide +kernel)
theorem zq_27 : zsq zi_27 = true := by decide +kernel
theorem zd_28 : zdf cX2_settle zi_28 = true := (by decide +kernel)
theorem zq_28 : zsq zi_28 = true := by decide +kernel
theorem zd_29 : zdf cX2_giveBack zi_29 = true := (by decide +kernel)
theorem zq_29 : zsq zi_29 = true := by decide +kernel
theorem zd_30 : zdf cX2_end zi_30 = true := (by decide +kernel)
theorem zq_30 : zsq zi_30 = true := by decide +kernel
theorem zd_31 : zdf cX3_init zi_31 = true := (by decide +kernel)
theorem zq_31 : zsq zi_31 = true := by decide +kernel
theorem zd_32 : zdf cX3_take zi_32 = true := (zdf_cut 40 (by decide +kernel) (by decide +kernel))
theorem zq_32 : zsq zi_32 = true := by decide +kernel
theorem zd_33 : zdf cX3_takeRow zi_33 = true := (zdf_cut 40 (by decide +kernel) (by decide +kernel))
theorem zq_33 : zsq zi_33 = true := by decide +kernel
theorem zd_34 : zdf cX3_kind zi_34 = true := (by decide +kernel)
theorem zq_34 : zsq zi_34 = true := by decide +kernel
theorem zd_35 : zdf cX3_size zi_35 = true := (by decide +kernel)
theorem zq_35 : zsq zi_35 = true := by decide +kernel
theorem zd_36 : zdf cX3_placeOf zi_36 = true := (by decide +kernel)
theorem zq_36 : zsq zi_36 = true := by decide +kernel
theorem zd_37 : zdf cX3_valueAt zi_37 = true := (by decide +kernel)
theorem zq_37 : zsq zi_37 = true := by decide +kernel
theorem zd_38 : zdf cX3_name zi_38 = true := (by decide +kernel)
theorem zq_38 : zsq zi_38 = true := by decide +kernel
theorem zd_39 : zdf cX3_number zi_39 = true := (by decide +kernel)
theorem zq_39 : zsq zi_39 = true := by decide +kernel
theorem zd_40 : zdf cX3_sum zi_40 = true := (by decide +kernel)
theorem zq_40 : zsq zi_40 = true := by decide +kernel
theorem zd_41 : zdf cX3_original zi_41 = true := (by decide +kernel)
theorem zq_41 : zsq zi_41 = true := by decide +kernel
theorem zd_42 : zdf cX3_verdict zi_42 = true := (by decide +kernel)
theorem zq_42 : zsq zi_42 = true := by decide +kernel
theorem zd_43 : zdf cX3_returned zi_43 = true := (by decide +kernel)
theorem zq_43 : zsq zi_43 = true := by decide +kernel
theorem zd_44 : zdf cX3_nameOf zi_44 = true := (by decide +kernel)
theorem zq_44 : zsq zi_44 = true := by decide +kernel
theorem zd_45 : zdf cX3_debtorOf zi_45 = true := (by decide +kernel)
theorem zq_45 : zsq zi_45 = true := by decide +kernel
theorem zd_46 : zdf cX3_creditorOf zi_46 = true := (by decide +kernel)
theorem zq_46 : zsq zi_46 = true := by decide +kernel
theorem zd_47 : zdf cX3_amountOf zi_47 = true := (by decide +kernel)
theorem zq_47 : zsq zi_47 = true := by decide +kernel
theorem zd_48 : zdf cX3_total zi_48 = true := (by decide +kernel)
theorem zq_48 : zsq zi_48 = true := by decide +kernel
theorem zd_49 : zdf cX3_hasGoodAccounts zi_49 = true := (by decide +kernel)
theorem zq_49 : zsq zi_49 = true := by decide +kernel
theorem zd_50 : zdf cX3_joinsDifferentAccounts zi_50 = true := (by decide +kernel)
theorem zq_50 : zsq zi_50 = true := by decide +kernel
theorem zd_51 : zdf cX3_hasDifferentNames zi_51 = true := (by decide +kernel)
theorem zq_51 : zsq zi_51 = true := by decide +kernel
theorem zd_52 : zdf cX4_init zi_52 = true := (by decide +kernel)
theorem zq_52 : zsq zi_52 = true := by decide +kernel
theorem zd_53 : zdf cX4_isDown zi_53 = true := (by decide +kernel)
theorem zq_53 : zsq zi_53 = true := by decide +kernel
theorem zd_54 : zdf cX4_length zi_54 = true := (by decide +kernel)
theorem zq_54 : zsq zi_54 = true := by decide +kernel
theorem zd_55 : zdf cX4_byteAt zi_55 = true := (by decide +kernel)
theorem zq_55 : zsq zi_55 = true := by decide +kernel
theorem zd_56 : zdf cX4_breakAfter zi_56 = true := (by decide +kernel)
theorem zq_56 : zsq zi_56 = true := by decide +kernel
theorem zd_57 : zdf cX4_restore zi_57 = true := (by decide +kernel)
theorem zq_57 : zsq zi_57 = true := by decide +kernel
theorem zd_58 : zdf cX4_begin zi_58 = true := (by decide +kernel)
theorem zq_58 : zsq zi_58 = true := by decide +kernel
theorem zd_59 : zdf cX4_add zi_59 = true := (by decide +kernel)
theorem zq_59 : zsq zi_59 = true := by decide +kernel
theorem zd_60 : zdf cX4_writeNumber zi_60 = true := (by decide +kernel)
theorem zq_60 : zsq zi_60 = true := by decide +kernel
theorem zd_61 : zdf cX4_write zi_61 = true := (zdf_cut 40 (by decide +kernel) (by decide +kernel))
theorem zq_61 : zsq zi_61 = true := by decide +kernel
theorem zd_62 : zdf cX4_check zi_62 = true := (by decide +kernel)
theorem zq_62 : zsq zi_62 = true := by decide +kernel
theorem zd_63 : zdf cX4_append zi_63 = true := (by decide +kernel)
theorem zq_63 : zsq zi_63 = true := by decide +kernel
theorem zd_64 : zdf cX5_init zi_64 = true := (by decide +kernel)
theorem zq_64 : zsq zi_64 = true := by decide +kernel
theorem zd_65 : zdf cX5_has zi_65 = true := (by decide +kernel)
theorem zq_65 : zsq zi_65 = true := by decide +kernel
theorem zd_66 : zdf cX5_add zi_66 = true := (by decide +kernel)
theorem zq_66 : zsq zi_66 = true := by decide +kernel
theorem zd_67 : zdf cX5_transactionOf zi_67 = true := (by decide +kernel)
theorem zq_67 : zsq zi_67 = true := by decide +kernel
theorem zd_68 : zdf cX5_statusOf zi_68 = true := (by decide +kernel)
theorem zq_68 : zsq zi_68 = true := by decide +kernel
theorem zd_69 : zdf cX5_isMarked zi_69 = true := (by decide +kernel)
theorem zq_69 : zsq zi_69 = true := by decide +kernel
theorem zd_70 : zdf cX5_copiesOf zi_70 = true := (by decide +kernel)
theorem zq_70 : zsq zi_70 = true := by decide +kernel
theorem zd_71 : zdf cX5_firstUnmarked zi_71 = true := (by decide +kernel)
theorem zq_71 : zsq zi_71 = true := by decide +kernel
theorem zd_72 : zdf cX5_copy zi_72 = true := (by decide +kernel)
theorem zq_72 : zsq zi_72 = true := by decide +kernel
theorem zd_73 : zdf cX5_mark zi_73 = true := (by decide +kernel)
theorem zq_73 : zsq zi_73 = true := by decide +kernel
theorem zd_74 : zdf cX6_init zi_74 = true := (by decide +kernel)
theorem zq_74 : zsq zi_74 = true := by decide +kernel
theorem zd_75 : zdf cX6_length zi_75 = true := (by decide +kernel)
theorem zq_75 : zsq zi_75 = true := by decide +kernel
theorem zd_76 : zdf cX6_hasRoomFor zi_76 = true := (by decide +kernel)
theorem zq_76 : zsq zi_76 = true := by decide +kernel
theorem zd_77 : zdf cX6_add zi_77 = true := (by decide +kernel)
theorem zq_77 : zsq zi_77 = true := by decide +kernel
theorem zd_78 : zdf cX6_clear zi_78 = true := (by decide +kernel)
theorem zq_78 : zsq zi_78 = true := by decide +kernel
theorem zd_79 : zdf cX6_read zi_79 = true := (by decide +kernel)
theorem zq_79 : zsq zi_79 = true := by decide +kernel
theorem zd_80 : zdf cX6_readNext zi_80 = true := (by decide +kernel)
theorem zq_80 : zsq zi_80 = true := by decide +kernel
theorem zd_81 : zdf cX6_readSign zi_81 = true := (by decide +kernel)
theorem zq_81 : zsq zi_81 = true := by decide +kernel
theorem zd_82 : zdf cX6_readComment zi_82 = true := (zdf_cut 40 (by decide +kernel) (by decide +kernel))
theorem zq_82 : zsq zi_82 = true := by decide +kernel
theorem zd_83 : zdf cX6_readBegin zi_83 = true := (by decide +kernel)
theorem zq_83 : zsq zi_83 = true := by decide +kernel
theorem zd_84 : zdf cX6_readEnd zi_84 = true := (by decide +kernel)
theorem zq_84 : zsq zi_84 = true := by decide +kernel
theorem zd_85 : zdf cX6_readClosingSign zi_85 = true := (by decide +kernel)
theorem zq_85 : zsq zi_85 = true := by decide +kernel
theorem zd_86 : zdf cX6_readReference zi_86 = true := (zdf_cut 40 (by decide +kernel) (by decide +kernel))
theorem zq_86 : zsq zi_86 = true := by decide +kernel
theorem zd_87 : zdf cX6_skipBlanks zi_87 = true := (by decide +kernel)
theorem zq_87 : zsq zi_87 = true := by decide +kernel
theorem zd_88 : zdf cX6_peek zi_88 = true := (by decide +kernel)
theorem zq_88 : zsq zi_88 = true := by decide +kernel
theorem zd_89 : zdf cX7_init zi_89 = true := (by decide +kernel)
theorem zq_89 : zsq zi_89 = true := by decide +kernel
theorem zd_90 : zdf cX7_has zi_90 = true := (by decide +kernel)
theorem zq_90 : zsq zi_90 = true := by decide +kernel
theorem zd_91 : zdf cX7_hasRoomFor zi_91 = true := (by decide +kernel)
theorem zq_91 : zsq zi_91 = true := by decide +kernel
theorem zd_92 : zdf cX7_find zi_92 = true := (by decide +kernel)
theorem zq_92 : zsq zi_92 = true := by decide +kernel
theorem zd_93 : zdf cX7_statusOf zi_93 = true := (by decide +kernel)
theorem zq_93 : zsq zi_93 = true := by decide +kernel
theorem zd_94 : zdf cX7_amountOf zi_94 = true := (by decide +kernel)
theorem zq_94 : zsq zi_94 = true := by decide +kernel
theorem zd_95 : zdf cX7_debtorOf zi_95 = true := (by decide +kernel)
theorem zq_95 : zsq zi_95 = true := by decide +kernel
theorem zd_96 : zdf cX7_creditorOf zi_96 = true := (by decide +kernel)
theorem zq_96 : zsq zi_96 = true := by decide +kernel
theorem zd_97 : zdf cX7_deadlineOf zi_97 = true := (by decide +kernel)
theorem zq_97 : zsq zi_97 = true := by decide +kernel
theorem zd_98 : zdf cX7_isDue zi_98 = true := (by decide +kernel)
theorem zq_98 : zsq zi_98 = true := by decide +kernel
theorem zd_99 : zdf cX7_firstQueued zi_99 = true := (by decide +kernel)
theorem zq_99 : zsq zi_99 = true := by decide +kernel
theorem zd_100 : zdf cX7_queuedAt zi_100 = true := (by decide +kernel)
theorem zq_100 : zsq zi_100 = true := by decide +kernel
theorem zd_101 : zdf cX7_receive zi_101 = true := (zdf_cut 40 (by decide +kernel) (by decide +kernel))
theorem zq_101 : zsq zi_101 = true := by decide +kernel
theorem zd_102 : zdf cX7_become zi_102 = true := (by decide +kernel)
theorem zq_102 : zsq zi_102 = true := by decide +kernel
theorem zd_103 : zdf cX7_setDeadline zi_103 = true := (by decide +kernel)
theorem zq_103 : zsq zi_103 = true := by decide +kernel
theorem zd_104 : zdf cX7_dropFirstQueued zi_104 = true := (by decide +kernel)
theorem zq_104 : zsq zi_104 = true := by decide +kernel
theorem zd_105 : zdf cX7_wakeThoseOf zi_105 = true := (by decide +kernel)
theorem zq_105 : zsq zi_105 = true := by decide +kernel
theorem zd_106 : zdf cX7_enqueue zi_106 = true := (by decide +kernel)
theorem zq_106 : zsq zi_106 = true := by decide +kernel
theorem zd_107 : zdf cX8_init zi_107 = true := (by decide +kernel)
theorem zq_107 : zsq zi_107 = true := by decide +kernel
theorem zd_108 : zdf cX8_clear zi_108 = true := (by decide +kernel)
theorem zq_108 : zsq zi_108 = true := by decide +kernel
theorem zd_109 : zdf cX8_isOpen zi_109 = true := (by decide +kernel)
theorem zq_109 : zsq zi_109 = true := by decide +kernel
theorem zd_110 : zdf cX8_isComplete zi_110 = true := (by decide +kernel)
theorem zq_110 : zsq zi_110 = true := by decide +kernel
theorem zd_111 : zdf cX8_size zi_111 = true := (by decide +kernel)
theorem zq_111 : zsq zi_111 = true := by decide +kernel
theorem zd_112 : zdf cX8_begin zi_112 = true := (zdf_cut 40 (by decide +kernel) (by decide +kernel))
theorem zq_112 : zsq zi_112 = true := by decide +kernel
theorem zd_113 : zdf cX8_end zi_113 = true := (by decide +kernel)
theorem zq_113 : zsq zi_113 = true := by decide +kernel
theorem zd_114 : zdf cX8_add zi_114 = true := (by decide +kernel)
theorem zq_114 : zsq zi_114 = true := by decide +kernel
theorem zd_115 : zdf cX8_isAt zi_115 = true := (by decide +kernel)
theorem zq_115 : zsq zi_115 = true := by decide +kernel
theorem zd_116 : zdf cX8_letterAt zi_116 = true := (by decide +kernel)
theorem zq_116 : zsq zi_116 = true := by decide +kernel
theorem zd_117 : zdf cX8_hasOnlyBlanks zi_117 = true := (by decide +kernel)
theorem zq_117 : zsq zi_117 = true := by decide +kernel
theorem zd_118 : zdf cX8_beginOf zi_118 = true := (by decide +kernel)
theorem zq_118 : zsq zi_118 = true := by decide +kernel
theorem zd_119 : zdf cX8_endOf zi_119 = true := (by decide +kernel)
theorem zq_119 : zsq zi_119 = true := by decide +kernel
theorem zd_120 : zdf cX8_characterAt zi_120 = true := (by decide +kernel)
theorem zq_120 : zsq zi_120 = true := by decide +kernel
theorem zd_121 : zdf cX8_has zi_121 = true := (by decide +kernel)
theorem zq_121 : zsq zi_121 = true := by decide +kernel
theorem zd_122 : zdf cX8_innermost zi_122 = true := (by decide +kernel)
theorem zq_122 : zsq zi_122 = true := by decide +kernel
theorem zd_123 : zdf cX9_init zi_123 = true := (by decide +kernel)
theorem zq_123 : zsq zi_123 = true := by decide +kernel
theorem zd_124 : zdf cX9_read zi_124 = true := (by decide +kernel)
theorem zq_124 : zsq zi_124 = true := by decide +kernel
theorem zd_125 : zdf cX9_trim zi_125 = true := (by decide +kernel)
theorem zq_125 : zsq zi_125 = true := by decide +kernel
theorem zd_126 : zdf cX9_name zi_126 = true := (zdf_cut 40 (by decide +kernel) (by decide +kernel))
theorem zq_126 : zsq zi_126 = true := by decide +kernel
theorem zd_127 : zdf cX9_accountNumber zi_127 = true := (by decide +kernel)
theorem zq_127 : zsq zi_127 = true := by decide +kernel
theorem zd_128 : zdf cX9_verdict zi_128 = true := (by decide +kernel)
theorem zq_128 : zsq zi_128 = true := by decide +kernel
theorem zd_129 : zdf cX9_amount zi_129 = true := (zdf_cut 40 (by decide +kernel) (by decide +kernel))
theorem zq_129 : zsq zi_129 = true := by decide +kernel
theorem zd_130 : zdf cX9_digits zi_130 = true := (by decide +kernel)
theorem zq_130 : zsq zi_130 = true := by decide +kernel
theorem zd_131 : zdf cX10_init zi_131 = true := (by decide +kernel)
theorem zq_131 : zsq zi_131 = true := by decide +kernel
theorem zd_132 : zdf cX10_put zi_132 = true := (by decide +kernel)
theorem zq_132 : zsq zi_132 = true := by decide +kernel
theorem zd_133 : zdf cX10_submit zi_133 = true := (zdf_cut 40 (by decide +kernel) (by decide +kernel))
theorem zq_133 : zsq zi_133 = true := by decide +kernel
theorem zd_134 : zdf cX10_work zi_134 = true := (by decide +kernel)
theorem zq_134 : zsq zi_134 = true := by decide +kernel
theorem zd_135 : zdf cX10_tick zi_135 = true := (by decide +kernel)
theorem zq_135 : zsq zi_135 = true := by decide +kernel
theorem zd_136 : zdf cX10_send zi_136 = true := (by decide +kernel)
theorem zq_136 : zsq zi_136 = true := by decide +kernel
theorem zd_137 : zdf cX10_fail zi_137 = true := (by decide +kernel)
theorem zq_137 : zsq zi_137 = true := by decide +kernel
theorem zd_138 : zdf cX10_recover zi_138 = true := (by decide +kernel)
theorem zq_138 : zsq zi_138 = true := by decide +kernel
theorem zd_139 : zdf cX10_journal zi_139 = true := (by decide +kernel)
theorem zq_139 : zsq zi_139 = true := by decide +kernel
theorem zd_140 : zdf cX10_octet zi_140 = true := (by decide +kernel)
theorem zq_140 : zsq zi_140 = true := by decide +kernel
theorem zd_141 : zdf cX10_transaction zi_141 = true := (zdf_cut 40 (by decide +kernel) (by decide +kernel))
theorem zq_141 : zsq zi_141 = true := by decide +kernel
theorem zd_142 : zdf cX10_queue zi_142 = true := (by decide +kernel)
theorem zq_142 : zsq zi_142 = true := by decide +kernel
theorem zd_143 : zdf cX10_account zi_143 = true := (by decide +kernel)
theorem zq_143 : zsq zi_143 = true := by decide +kernel
theorem zd_144 : zdf cX10_entry zi_144 = true := (by decide +kernel)
theorem zq_144 : zsq zi_144 = true := by decide +kernel
theorem zd_145 : zdf cX10_report zi_145 = true := (by decide +kernel)
theorem zq_145 : zsq zi_145 = true := by decide +kernel
theorem zd_146 : zdf cX10_copies zi_146 = true := (by decide +kernel)
theorem zq_146 : zsq zi_146 = true := by decide +kernel
theorem zd_147 : zdf cX10_hold zi_147 = true := (zdf_cut 40 (by decide +kernel) (by decide +kernel))
theorem zq_147 : zsq zi_147 = true := by decide +kernel
theorem zd_148 : zdf cX10_letWait zi_148 = true := (by decide +kernel)
theorem zq_148 : zsq zi_148 = true := by decide +kernel
theorem zd_149 : zdf cX10_ruleBroken zi_149 = true := (by decide +kernel)
theorem zq_149 : zsq zi_149 = true := by decide +kernel
theorem zd_150 : zdf cX10_ruleBrokenByPayment zi_150 = true := (zdf_cut 40 (by decide +kernel) (by decide +kernel))
theorem zq_150 : zsq zi_150 = true := by decide +kernel
theorem zd_151 : zdf cX10_ruleBrokenByFollower zi_151 = true := (by decide +kernel)
theorem zq_151 : zsq zi_151 = true := by decide +kernel
theorem zd_152 : zdf cX10_ruleBrokenByReturn zi_152 = true := (by decide +kernel)
theorem zq_152 : zsq zi_152 = true := by decide +kernel
theorem zd_153 : zdf cX10_nearestMoney zi_153 = true := (by decide +kernel)
theorem zq_153 : zsq zi_153 = true := by decide +kernel
theorem zd_154 : zdf cX10_byteOf zi_154 = true := (by decide +kernel)
theorem zq_154 : zsq zi_154 = true := by decide +kernel
theorem zd_155 : zdf cX10_areReadable zi_155 = true := (by decide +kernel)
theorem zq_155 : zsq zi_155 = true := by decide +kernel
theorem zd_156 : zdf cX10_isDigit zi_156 = true := (by decide +kernel)
theorem zq_156 : zsq zi_156 = true := by decide +kernel
theorem zd_157 : zdf cX10_isLetter zi_157 = true := (by decide +kernel)
theorem zq_157 : zsq zi_157 = true := by decide +kernel
theorem zd_158 : zdf cX10_rowOf zi_158 = true := (by decide +kernel)
theorem zq_158 : zsq zi_158 = true := by decide +kernel
theorem zd_159 : zdf cX10_letterPlaceOf zi_159 = true := (by decide +kernel)
theorem zq_159 : zsq zi_159 = true := by decide +kernel
theorem zd_160 : zdf cX11_init zi_160 = true := (zdf_cut 40 (by decide +kernel) (zdf_cut 40 (by decide +kernel) (zdf_cut 40 (by decide +kernel) (by decide +kernel))))
theorem zq_160 : zsq zi_160 = true := by decide +kernel
theorem zd_161 : zdf cX11_put zi_161 = true := (zdf_cut 40 (by decide +kernel) (by decide +kernel))
theorem zq_161 : zsq zi_161 = true := by decide +kernel
theorem zd_162 : zdf cX11_sees zi_162 = true := (by decide +kernel)
theorem zq_162 : zsq zi_162 = true := by decide +kernel
theorem zd_163 : zdf cX11_isLetter zi_163 = true := (by decide +kernel)
theorem zq_163 : zsq zi_163 = true := by decide +kernel
theorem zd_164 : zdf cX11_isDigit zi_164 = true := (by decide +kernel)
theorem zq_164 : zsq zi_164 = true := by decide +kernel
theorem zd_165 : zdf cX11_skipBlanks zi_165 = true := (by decide +kernel)
theorem zq_165 : zsq zi_165 = true := by decide +kernel
theorem zd_166 : zdf cX11_comment zi_166 = true := (zdf_cut 40 (by decide +kernel) (by decide +kernel))
theorem zq_166 : zsq zi_166 = true := by decide +kernel
theorem zd_167 : zdf cX11_closing zi_167 = true := (zdf_cut 40 (by decide +kernel) (by decide +kernel))
theorem zq_167 : zsq zi_167 = true := by decide +kernel
theorem zd_168 : zdf cX11_opening zi_168 = true := (zdf_cut 40 (by decide +kernel) (zdf_cut 40 (by decide +kernel) (zdf_cut 40 (by decide +kernel) (zdf_cut 40 (by decide +kernel) (by decide +kernel)))))
theorem zq_168 : zsq zi_168 = true := by decide +kernel
theorem zd_169 : zdf cX11_letterIn zi_169 = true := (zdf_cut 40 (by decide +kernel) (by decide +kernel))
theorem zq_169 : zsq zi_169 = true := by decide +kernel
theorem zd_170 : zdf cX11_reference zi_170 = true := (zdf_cut 40 (by decide +kernel) (by decide +kernel))
theorem zq_170 : zsq zi_170 = true := by decide +kernel
theorem zd_171 : zdf cX11_isDocument zi_171 = true := (zdf_cut 40 (by decide +kernel) (zdf_cut 40 (by decide +kernel) (by decide +kernel)))
theorem zq_171 : zsq zi_171 = true := by decide +kernel
theorem zd_172 : zdf cX11_child zi_172 = true := (by decide +kernel)
theorem zq_172 : zsq zi_172 = true := by decide +kernel
theorem zd_173 : zdf cX11_isLeaf zi_173 = true := (zdf_cut 40 (by decide +kernel) (by decide +kernel))
theorem zq_173 : zsq zi_173 = true := by decide +kernel
theorem zd_174 : zdf cX11_name zi_174 = true := (zdf_cut 40 (by decide +kernel) (by decide +kernel))
theorem zq_174 : zsq zi_174 = true := by decide +kernel
theorem zd_175 : zdf cX11_small zi_175 = true := (zdf_cut 40 (by decide +kernel) (by decide +kernel))
theorem zq_175 : zsq zi_175 = true := by decide +kernel
theorem zd_176 : zdf cX11_placeOf zi_176 = true := (by decide +kernel)
theorem zq_176 : zsq zi_176 = true := by decide +kernel
theorem zd_177 : zdf cX11_amount zi_177 = true := (zdf_cut 40 (by decide +kernel) (zdf_cut 40 (by decide +kernel) (by decide +kernel)))
theorem zq_177 : zsq zi_177 = true := by decide +kernel
theorem zd_178 : zdf cX11_readPart zi_178 = true := (zdf_cut 40 (by decide +kernel) (zdf_cut 40 (by decide +kernel) (zdf_cut 40 (by decide +kernel) (by decide +kernel))))
theorem zq_178 : zsq zi_178 = true := by decide +kernel
theorem zd_179 : zdf cX11_isValid zi_179 = true := (zdf_cut 40 (by decide +kernel) (zdf_cut 40 (by decide +kernel) (zdf_cut 40 (by decide +kernel) (zdf_cut 40 (by decide +kernel) (zdf_cut 40 (by decide +kernel) (by decide +kernel))))))
theorem zq_179 : zsq zi_179 = true := by decide +kernel
theorem zd_180 : zdf cX11_isRight zi_180 = true := (by decide +kernel)
theorem zq_180 : zsq zi_180 = true := by decide +kernel
theorem zd_181 : zdf cX11_known zi_181 = true := (by decide +kernel)
theorem zq_181 : zsq zi_181 = true := by decide +kernel
theorem zd_182 : zdf cX11_brokenByPayment zi_182 = true := (zdf_cut 40 (by decide +kernel) (zdf_cut 40 (by decide +kernel) (zdf_cut 40 (by decide +kernel) (by decide +kernel))))
theorem zq_182 : zsq zi_182 = true := by decide +kernel
theorem zd_183 : zdf cX11_brokenByAnswer zi_183 = true := (zdf_cut 40 (by decide +kernel) (by decide +kernel))
theorem zq_183 : zsq zi_183 = true := by decide +kernel
theorem zd_184 : zdf cX11_broken zi_184 = true := (zdf_cut 40 (by decide +kernel) (by decide +kernel))
theorem zq_184 : zsq zi_184 = true := by decide +kernel
theorem zd_185 : zdf cX11_byteOut zi_185 = true := (by decide +kernel)
theorem zq_185 : zsq zi_185 = true := by decide +kernel
theorem zd_186 : zdf cX11_tagOut zi_186 = true := (by decide +kernel)
theorem zq_186 : zsq zi_186 = true := by decide +kernel
theorem zd_187 : zdf cX11_numberOut zi_187 = true := (by decide +kernel)
theorem zq_187 : zsq zi_187 = true := by decide +kernel
theorem zd_188 : zdf cX11_leafOut zi_188 = true := (zdf_cut 40 (by decide +kernel) (zdf_cut 40 (by decide +kernel) (by decide +kernel)))
theorem zq_188 : zsq zi_188 = true := by decide +kernel
theorem zd_189 : zdf cX11_canonical zi_189 = true := (zdf_cut 40 (by decide +kernel) (by decide +kernel))
theorem zq_189 : zsq zi_189 = true := by decide +kernel
theorem zd_190 : zdf cX11_write zi_190 = true := (zdf_cut 40 (by decide +kernel) (zdf_cut 40 (by decide +kernel) (zdf_cut 40 (by decide +kernel) (by decide +kernel))))
theorem zq_190 : zsq zi_190 = true := by decide +kernel
theorem zd_191 : zdf cX11_writeOne zi_191 = true := (by decide +kernel)
theorem zq_191 : zsq zi_191 = true := by decide +kernel
theorem zd_192 : zdf cX11_isTag zi_192 = true := (by decide +kernel)
theorem zq_192 : zsq zi_192 = true := by decide +kernel
theorem zd_193 : zdf cX11_next zi_193 = true := (by decide +kernel)
theorem zq_193 : zsq zi_193 = true := by decide +kernel
theorem zd_194 : zdf cX11_nameAt zi_194 = true := (zdf_cut 40 (by decide +kernel) (by decide +kernel))
theorem zq_194 : zsq zi_194 = true := by decide +kernel
theorem zd_195 : zdf cX11_amountAt zi_195 = true := (by decide +kernel)
theorem zq_195 : zsq zi_195 = true := by decide +kernel
theorem zd_196 : zdf cX11_leaveRow zi_196 = true := (by decide +kernel)
theorem zq_196 : zsq zi_196 = true := by decide +kernel
theorem zd_197 : zdf cX11_enter zi_197 = true := (by decide +kernel)
theorem zq_197 : zsq zi_197 = true := by decide +kernel
theorem zd_198 : zdf cX11_tell zi_198 = true := (zdf_cut 40 (by decide +kernel) (by decide +kernel))
theorem zq_198 : zsq zi_198 = true := by decide +kernel
theorem zd_199 : zdf cX11_reject zi_199 = true := (by decide +kernel)
theorem zq_199 : zsq zi_199 = true := by decide +kernel
theorem zd_200 : zdf cX11_doMessage zi_200 = true := (zdf_cut 40 (by decide +kernel) (zdf_cut 40 (by decide +kernel) (zdf_cut 40 (by decide +kernel) (zdf_cut 40 (by decide +kernel) (by decide +kernel)))))
theorem zq_200 : zsq zi_200 = true := by decide +kernel
theorem zd_201 : zdf cX11_doPart zi_201 = true := (zdf_cut 40 (by decide +kernel) (zdf_cut 40 (by decide +kernel) (by decide +kernel)))
theorem zq_201 : zsq zi_201 = true := by decide +kernel
theorem zd_202 : zdf cX11_doRecord zi_202 = true := (zdf_cut 40 (by decide +kernel) (zdf_cut 40 (by decide +kernel) (by decide +kernel)))
theorem zq_202 : zsq zi_202 = true := by decide +kernel
theorem zd_203 : zdf cX11_replay zi_203 = true := (zdf_cut 40 (by decide +kernel) (by decide +kernel))
theorem zq_203 : zsq zi_203 = true := by decide +kernel
theorem zd_204 : zdf cX11_submit zi_204 = true := (by decide +kernel)
theorem zq_204 : zsq zi_204 = true := by decide +kernel
theorem zd_205 : zdf cX11_work zi_205 = true := (zdf_cut 40 (by decide +kernel) (zdf_cut 40 (by decide +kernel) (by decide +kernel)))
theorem zq_205 : zsq zi_205 = true := by decide +kernel
theorem zd_206 : zdf cX11_tick zi_206 = true := (zdf_cut 40 (by decide +kernel) (by decide +kernel))
theorem zq_206 : zsq zi_206 = true := by decide +kernel
theorem zd_207 : zdf cX11_send zi_207 = true := (by decide +kernel)
theorem zq_207 : zsq zi_207 = true := by decide +kernel
theorem zd_208 : zdf cX11_fail zi_208 = true := (by decide +kernel)
theorem zq_208 : zsq zi_208 = true := by decide +kernel
theorem zd_209 : zdf cX11_recover zi_209 = true := (by decide +kernel)
theorem zq_209 : zsq zi_209 = true := by decide +kernel
theorem zd_210 : zdf cX11_journal zi_210 = true := (by decide +kernel)
theorem zq_210 : zsq zi_210 = true := by decide +kernel
theorem zd_211 : zdf cX11_octet zi_211 = true := (by decide +kernel)
theorem zq_211 : zsq zi_211 = true := by decide +kernel
theorem zd_212 : zdf cX11_transaction zi_212 = true := (zdf_cut 40 (by decide +kernel) (by decide +kernel))
theorem zq_212 : zsq zi_212 = true := by decide +kernel
theorem zd_213 : zdf cX11_queue zi_213 = true := (by decide +kernel)
theorem zq_213 : zsq zi_213 = true := by decide +kernel
theorem zd_214 : zdf cX11_account zi_214 = true := (by decide +kernel)
theorem zq_214 : zsq zi_214 = true := by decide +kernel
theorem zd_215 : zdf cX11_entry zi_215 = true := (by decide +kernel)
theorem zq_215 : zsq zi_215 = true := by decide +kernel
theorem zd_216 : zdf cX11_report zi_216 = true := (by decide +kernel)
theorem zq_216 : zsq zi_216 = true := by decide +kernel
theorem zd_217 : zdf cX11_copies zi_217 = true := (by decide +kernel)
theorem zq_217 : zsq zi_217 = true := by decide +kernel
theorem zd_218 : zdf cL_cell zi_218 = true := (by decide +kernel)
theorem zq_218 : zsq zi_218 = true := by decide +kernel
theorem zd_219 : zdf cL_law zi_219 = true := (zdf_cut 40 (by decide +kernel) (zdf_cut 40 (by decide +kernel) (zdf_cut 40 (by decide +kernel) (zdf_cut 40 (by decide +kernel) (zdf_cut 40 (by decide +kernel) (zdf_cut 40 (by decide +kernel) (zdf_cut 40 (by decide +kernel) (zdf_cut 40 (by decide +kernel) (by decide +kernel)))))))))
theorem zq_219 : zsq zi_219 = true := by decide +kernel
theorem zd_220 : zdf cJ0_length_8abf5 zi_220 = true := (by decide +kernel)
theorem zq_220 : zsq zi_220 = true := by decide +kernel
theorem zd_221 : zdf cJ0_isEmpty_aae02 zi_221 = true := (by decide +kernel)
theorem zq_221 : zsq zi_221 = true := by decide +kernel
theorem zd_222 : zdf cJ0_charAt_5068e zi_222 = true := (by decide +kernel)
theorem zq_222 : zsq zi_222 = true := by decide +kernel
theorem zd_223 : zdf cJ0_coder_7d493 zi_223 = true := (by decide +kernel)
theorem zq_223 : zsq zi_223 = true := by decide +kernel
theorem zd_224 : zdf cJ0_isLatin1_aae02 zi_224 = true := (by decide +kernel)
theorem zq_224 : zsq zi_224 = true := by decide +kernel
theorem zd_225 : zdf cJ0_checkIndex_df160 zi_225 = true := (by decide +kernel)
theorem zq_225 : zsq zi_225 = true := by decide +kernel
theorem zd_226 : zdf cJ1_charAt_3b067 zi_226 = true := (by decide +kernel)
theorem zq_226 : zsq zi_226 = true := by decide +kernel
theorem zd_227 : zdf cJ2_getChar_3b067 zi_227 = true := (by decide +kernel)
theorem zq_227 : zsq zi_227 = true := by decide +kernel
theorem zd_228 : zdf cJ2_length_9d52b zi_228 = true := (by decide +kernel)
theorem zq_228 : zsq zi_228 = true := by decide +kernel
theorem zd_229 : zdf cJ2_charAt_3b067 zi_229 = true := (by decide +kernel)
theorem zq_229 : zsq zi_229 = true := by decide +kernel
theorem zd_230 : zdf cJ2_checkIndex_2214a zi_230 = true := (by decide +kernel)
theorem zq_230 : zsq zi_230 = true := by decide +kernel
theorem zd_231 : zdf cJ3_checkIndex_8e157 zi_231 = true := (by decide +kernel)
theorem zq_231 : zsq zi_231 = true := by decide +kernel
theorem zd_232 : zdf cJ9_max_7cf53 zi_232 = true := (by decide +kernel)
theorem zq_232 : zsq zi_232 = true := by decide +kernel
theorem zd_233 : zdf cJ9_min_7cf53 zi_233 = true := (by decide +kernel)
theorem zq_233 : zsq zi_233 = true := by decide +kernel
def zDp (k : Nat) : Prop := zdf (zC k) (zI k) = true ∧ zsq (zI k) = true
theorem zdg_0 : ∀ j, j < 16 → zDp (0 + j)
  | 0, _ => ⟨zd_0, zq_0⟩
  | 1, _ => ⟨zd_1, zq_1⟩
  | 2, _ => ⟨zd_2, zq_2⟩
  | 3, _ => ⟨zd_3, zq_3⟩
  | 4, _ => ⟨zd_4, zq_4⟩
  | 5, _ => ⟨zd_5, zq_5⟩
  | 6, _ => ⟨zd_6, zq_6⟩
  | 7, _ => ⟨zd_7, zq_7⟩
  | 8, _ => ⟨zd_8, zq_8⟩
  | 9, _ => ⟨zd_9, zq_9⟩
  | 10, _ => ⟨zd_10, zq_10⟩
  | 11, _ => ⟨zd_11, zq_11⟩
  | 12, _ => ⟨zd_12, zq_12⟩
  | 13, _ => ⟨zd_13, zq_13⟩
  | 14, _ => ⟨zd_14, zq_14⟩
  | 15, _ => ⟨zd_15, zq_15⟩
  | j + 16, h => absurd h (by omega)
theorem zdg_1 : ∀ j, j < 16 → zDp (16 + j)
  | 0, _ => ⟨zd_16, zq_16⟩
  | 1, _ => ⟨zd_17, zq_17⟩
  | 2, _ => ⟨zd_18, zq_18⟩
  | 3, _ => ⟨zd_19, zq_19⟩
  | 4, _ => ⟨zd_20, zq_20⟩
  | 5, _ => ⟨zd_21, zq_21⟩
  | 6, _ => ⟨zd_22, zq_22⟩
  | 7, _ => ⟨zd_23, zq_23⟩
  | 8, _ => ⟨zd_24, zq_24⟩
  | 9, _ => ⟨zd_25, zq_25⟩
  | 10, _ => ⟨zd_26, zq_26⟩
  | 11, _ => ⟨zd_27, zq_27⟩
  | 12, _ => ⟨zd_28, zq_28⟩
  | 13, _ => ⟨zd_29, zq_29⟩
  | 14, _ => ⟨zd_30, zq_30⟩
  | 15, _ => ⟨zd_31, zq_31⟩
  | j + 16, h => absurd h (by omega)
theorem zdg_2 : ∀ j, j < 16 → zDp (32 + j)
  | 0, _ => ⟨zd_32, zq_32⟩
  | 1, _ => ⟨zd_33, zq_33⟩
  | 2, _ => ⟨zd_34, zq_34⟩
  | 3, _ => ⟨zd_35, zq_35⟩
  | 4, _ => ⟨zd_36, zq_36⟩
  | 5, _ => ⟨zd_37, zq_37⟩
  | 6, _ => ⟨zd_38, zq_38⟩
  | 7, _ => ⟨zd_39, zq_39⟩
  | 8, _ => ⟨zd_40, zq_40⟩
  | 9, _ => ⟨zd_41, zq_41⟩
  | 10, _ => ⟨zd_42, zq_42⟩
  | 11, _ => ⟨zd_43, zq_43⟩
  | 12, _ => ⟨zd_44, zq_44⟩
  | 13, _ => ⟨zd_45, zq_45⟩
  | 14, _ => ⟨zd_46, zq_46⟩
  | 15, _ => ⟨zd_47, zq_47⟩
  | j + 16, h => absurd h (by omega)
theorem zdg_3 : ∀ j, j < 16 → zDp (48 + j)
  | 0, _ => ⟨zd_48, zq_48⟩
  | 1, _ => ⟨zd_49, zq_49⟩
  | 2, _ => ⟨zd_50, zq_50⟩
  | 3, _ => ⟨zd_51, zq_51⟩
  | 4, _ => ⟨zd_52, zq_52⟩
  | 5, _ => ⟨zd_53, zq_53⟩
  | 6, _ => ⟨zd_54, zq_54⟩
  | 7, _ => ⟨zd_55, zq_55⟩
  | 8, _ => ⟨zd_56, zq_56⟩
  | 9, _ => ⟨zd_57, zq_57⟩
  | 10, _ => ⟨zd_58, zq_58⟩
  | 11, _ => ⟨zd_59, zq_59⟩
  | 12, _ => ⟨zd_60, zq_60⟩
  | 13, _ => ⟨zd_61, zq_61⟩
  | 14, _ => ⟨zd_62, zq_62⟩
  | 15, _ => ⟨zd_63, zq_63⟩
  | j + 16, h => absurd h (by omega)
theorem zdg_4 : ∀ j, j < 16 → zDp (64 + j)
  | 0, _ => ⟨zd_64, zq_64⟩
  | 1, _ => ⟨zd_65, zq_65⟩
  | 2, _ => ⟨zd_66, zq_66⟩
  | 3, _ => ⟨zd_67, zq_67⟩
  | 4, _ => ⟨zd_68, zq_68⟩
  | 5, _ => ⟨zd_69, zq_69⟩
  | 6, _ => ⟨zd_70, zq_70⟩
  | 7, _ => ⟨zd_71, zq_71⟩
  | 8, _ => ⟨zd_72, zq_72⟩
  | 9, _ => ⟨zd_73, zq_73⟩
  | 10, _ => ⟨zd_74, zq_74⟩
  | 11, _ => ⟨zd_75, zq_75⟩
  | 12, _ => ⟨zd_76, zq_76⟩
  | 13, _ => ⟨zd_77, zq_77⟩
  | 14, _ => ⟨zd_78, zq_78⟩
  | 15, _ => ⟨zd_79, zq_79⟩
  | j + 16, h => absurd h (by omega)
theorem zdg_5 : ∀ j, j < 16 → zDp (80 + j)
  | 0, _ => ⟨zd_80, zq_80⟩
  | 1, _ => ⟨zd_81, zq_81⟩
  | 2, _ => ⟨zd_82, zq_82⟩
  | 3, _ => ⟨zd_83, zq_83⟩
  | 4, _ => ⟨zd_84, zq_84⟩
  | 5, _ => ⟨zd_85, zq_85⟩
  | 6, _ => ⟨zd_86, zq_86⟩
  | 7, _ => ⟨zd_87, zq_87⟩
  | 8, _ => ⟨zd_88, zq_88⟩
  | 9, _ => ⟨zd_89, zq_89⟩
  | 10, _ => ⟨zd_90, zq_90⟩
  | 11, _ => ⟨zd_91, zq_91⟩
  | 12, _ => ⟨zd_92, zq_92⟩
  | 13, _ => ⟨zd_93, zq_93⟩
  | 14, _ => ⟨zd_94, zq_94⟩
  | 15, _ => ⟨zd_95, zq_95⟩
  | j + 16, h => absurd h (by omega)
theorem zdg_6 : ∀ j, j < 16 → zDp (96 + j)
  | 0, _ => ⟨zd_96, zq_96⟩
  | 1, _ => ⟨zd_97, zq_97⟩
  | 2, _ => ⟨zd_98, zq_98⟩
  | 3, _ => ⟨zd_99, zq_99⟩
  | 4, _ => ⟨zd_100, zq_100⟩
  | 5, _ => ⟨zd_101, zq_101⟩
  | 6, _ => ⟨zd_102, zq_102⟩
  | 7, _ => ⟨zd_103, zq_103⟩
  | 8, _ => ⟨zd_104, zq_104⟩
  | 9, _ => ⟨zd_105, zq_105⟩
  | 10, _ => ⟨zd_106, zq_106⟩
  | 11, _ => ⟨zd_107, zq_107⟩
  | 12, _ => ⟨zd_108, zq_108⟩
  | 13, _ => ⟨zd_109, zq_109⟩
  | 14, _ => ⟨zd_110, zq_110⟩
  | 15, _ => ⟨zd_111, zq_111⟩
  | j + 16, h => absurd h (by omega)
theorem zdg_7 : ∀ j, j < 16 → zDp (112 + j)
  | 0, _ => ⟨zd_112, zq_112⟩
  | 1, _ => ⟨zd_113, zq_113⟩
  | 2, _ => ⟨zd_114, zq_114⟩
  | 3, _ => ⟨zd_115, zq_115⟩
  | 4, _ => ⟨zd_116, zq_116⟩
  | 5, _ => ⟨zd_117, zq_117⟩
  | 6, _ => ⟨zd_118, zq_118⟩
  | 7, _ => ⟨zd_119, zq_119⟩
  | 8, _ => ⟨zd_120, zq_120⟩
  | 9, _ => ⟨zd_121, zq_121⟩
  | 10, _ => ⟨zd_122, zq_122⟩
  | 11, _ => ⟨zd_123, zq_123⟩
  | 12, _ => ⟨zd_124, zq_124⟩
  | 13, _ => ⟨zd_125, zq_125⟩
  | 14, _ => ⟨zd_126, zq_126⟩
  | 15, _ => ⟨zd_127, zq_127⟩
  | j + 16, h => absurd h (by omega)
theorem zdg_8 : ∀ j, j < 16 → zDp (128 + j)
  | 0, _ => ⟨zd_128, zq_128⟩
  | 1, _ => ⟨zd_129, zq_129⟩
  | 2, _ => ⟨zd_130, zq_130⟩
  | 3, _ => ⟨zd_131, zq_131⟩
  | 4, _ => ⟨zd_132, zq_132⟩
  | 5, _ => ⟨zd_133, zq_133⟩
  | 6, _ => ⟨zd_134, zq_134⟩
  | 7, _ => ⟨zd_135, zq_135⟩
  | 8, _ => ⟨zd_136, zq_136⟩
  | 9, _ => ⟨zd_137, zq_137⟩
  | 10, _ => ⟨zd_138, zq_138⟩
  | 11, _ => ⟨zd_139, zq_139⟩
  | 12, _ => ⟨zd_140, zq_140⟩
  | 13, _ => ⟨zd_141, zq_141⟩
  | 14, _ => ⟨zd_142, zq_142⟩
  | 15, _ => ⟨zd_143, zq_143⟩
  | j + 16, h => absurd h (by omega)
theorem zdg_9 : ∀ j, j < 16 → zDp (144 + j)
  | 0, _ => ⟨zd_144, zq_144⟩
  | 1, _ => ⟨zd_145, zq_145⟩
  | 2, _ => ⟨zd_146, zq_146⟩
  | 3, _ => ⟨zd_147, zq_147⟩
  | 4, _ => ⟨zd_148, zq_148⟩
  | 5, _ => ⟨zd_149, zq_149⟩
  | 6, _ => ⟨zd_150, zq_150⟩
  | 7, _ => ⟨zd_151, zq_151⟩
  | 8, _ => ⟨zd_152, zq_152⟩
  | 9, _ => ⟨zd_153, zq_153⟩
  | 10, _ => ⟨zd_154, zq_154⟩
  | 11, _ => ⟨zd_155, zq_155⟩
  | 12, _ => ⟨zd_156, zq_156⟩
  | 13, _ => ⟨zd_157, zq_157⟩
  | 14, _ => ⟨zd_158, zq_158⟩
  | 15, _ => ⟨zd_159, zq_159⟩
  | j + 16, h => absurd h (by omega)
theorem zdg_10 : ∀ j, j < 16 → zDp (160 + j)
  | 0, _ => ⟨zd_160, zq_160⟩
  | 1, _ => ⟨zd_161, zq_161⟩
  | 2, _ => ⟨zd_162, zq_162⟩
  | 3, _ => ⟨zd_163, zq_163⟩
  | 4, _ => ⟨zd_164, zq_164⟩
  | 5, _ => ⟨zd_165, zq_165⟩
  | 6, _ => ⟨zd_166, zq_166⟩
  | 7, _ => ⟨zd_167, zq_167⟩
  | 8, _ => ⟨zd_168, zq_168⟩
  | 9, _ => ⟨zd_169, zq_169⟩
  | 10, _ => ⟨zd_170, zq_170⟩
  | 11, _ => ⟨zd_171, zq_171⟩
  | 12, _ => ⟨zd_172, zq_172⟩
  | 13, _ => ⟨zd_173, zq_173⟩
  | 14, _ => ⟨zd_174, zq_174⟩
  | 15, _ => ⟨zd_175, zq_175⟩
  | j + 16, h => absurd h (by omega)
theorem zdg_11 : ∀ j, j < 16 → zDp (176 + j)
  | 0, _ => ⟨zd_176, zq_176⟩
  | 1, _ => ⟨zd_177, zq_177⟩
  | 2, _ => ⟨zd_178, zq_178⟩
  | 3, _ => ⟨zd_179, zq_179⟩
  | 4, _ => ⟨zd_180, zq_180⟩
  | 5, _ => ⟨zd_181, zq_181⟩
  | 6, _ => ⟨zd_182, zq_182⟩
  | 7, _ => ⟨zd_183, zq_183⟩
  | 8, _ => ⟨zd_184, zq_184⟩
  | 9, _ => ⟨zd_185, zq_185⟩
  | 10, _ => ⟨zd_186, zq_186⟩
  | 11, _ => ⟨zd_187, zq_187⟩
  | 12, _ => ⟨zd_188, zq_188⟩
  | 13, _ => ⟨zd_189, zq_189⟩
  | 14, _ => ⟨zd_190, zq_190⟩
  | 15, _ => ⟨zd_191, zq_191⟩
  | j + 16, h => absurd h (by omega)
theorem zdg_12 : ∀ j, j < 16 → zDp (192 + j)
  | 0, _ => ⟨zd_192, zq_192⟩
  | 1, _ => ⟨zd_193, zq_193⟩
  | 2, _ => ⟨zd_194, zq_194⟩
  | 3, _ => ⟨zd_195, zq_195⟩
  | 4, _ => ⟨zd_196, zq_196⟩
  | 5, _ => ⟨zd_197, zq_197⟩
  | 6, _ => ⟨zd_198, zq_198⟩
  | 7, _ => ⟨zd_199, zq_199⟩
  | 8, _ => ⟨zd_200, zq_200⟩
  | 9, _ => ⟨zd_201, zq_201⟩
  | 10, _ => ⟨zd_202, zq_202⟩
  | 11, _ => ⟨zd_203, zq_203⟩
  | 12, _ => ⟨zd_204, zq_204⟩
  | 13, _ => ⟨zd_205, zq_205⟩
  | 14, _ => ⟨zd_206, zq_206⟩
  | 15, _ => ⟨zd_207, zq_207⟩
  | j + 16, h => absurd h (by omega)
theorem zdg_13 : ∀ j, j < 16 → zDp (208 + j)
  | 0, _ => ⟨zd_208, zq_208⟩
  | 1, _ => ⟨zd_209, zq_209⟩
  | 2, _ => ⟨zd_210, zq_210⟩
  | 3, _ => ⟨zd_211, zq_211⟩
  | 4, _ => ⟨zd_212, zq_212⟩
  | 5, _ => ⟨zd_213, zq_213⟩
  | 6, _ => ⟨zd_214, zq_214⟩
  | 7, _ => ⟨zd_215, zq_215⟩
  | 8, _ => ⟨zd_216, zq_216⟩
  | 9, _ => ⟨zd_217, zq_217⟩
  | 10, _ => ⟨zd_218, zq_218⟩
  | 11, _ => ⟨zd_219, zq_219⟩
  | 12, _ => ⟨zd_220, zq_220⟩
  | 13, _ => ⟨zd_221, zq_221⟩
  | 14, _ => ⟨zd_222, zq_222⟩
  | 15, _ => ⟨zd_223, zq_223⟩
  | j + 16, h => absurd h (by omega)
theorem zdg_14 : ∀ j, j < 10 → zDp (224 + j)
  | 0, _ => ⟨zd_224, zq_224⟩
  | 1, _ => ⟨zd_225, zq_225⟩
  | 2, _ => ⟨zd_226, zq_226⟩
  | 3, _ => ⟨zd_227, zq_227⟩
  | 4, _ => ⟨zd_228, zq_228⟩
  | 5, _ => ⟨zd_229, zq_229⟩
  | 6, _ => ⟨zd_230, zq_230⟩
  | 7, _ => ⟨zd_231, zq_231⟩
  | 8, _ => ⟨zd_232, zq_232⟩
  | 9, _ => ⟨zd_233, zq_233⟩
  | j + 10, h => absurd h (by omega)
theorem zD_all (k : Nat) (hk : k < 234) : zDp k := by
  by_cases h0 : k < 16
  · have h := zdg_0 (k - 0) (by omega)
    rwa [show 0 + (k - 0) = k by omega] at h
  by_cases h1 : k < 32
  · have h := zdg_1 (k - 16) (by omega)
    rwa [show 16 + (k - 16) = k by omega] at h
  by_cases h2 : k < 48
  · have h := zdg_2 (k - 32) (by omega)
    rwa [show 32 + (k - 32) = k by omega] at h
  by_cases h3 : k < 64
  · have h := zdg_3 (k - 48) (by omega)
    rwa [show 48 + (k - 48) = k by omega] at h
  by_cases h4 : k < 80
  · have h := zdg_4 (k - 64) (by omega)
    rwa [show 64 + (k - 64) = k by omega] at h
  by_cases h5 : k < 96
  · have h := zdg_5 (k - 80) (by omega)
    rwa [show 80 + (k - 80) = k by omega] at h
  by_cases h6 : k < 112
  · have h := zdg_6 (k - 96) (by omega)
    rwa [show 96 + (k - 96) = k by omega] at h
  by_cases h7 : k < 128
  · have h := zdg_7 (k - 112) (by omega)
    rwa [show 112 + (k - 112) = k by omega] at h
  by_cases h8 : k < 144
  · have h := zdg_8 (k - 128) (by omega)
    rwa [show 128 + (k - 128) = k by omega] at h
  by_cases h9 : k < 160
  · have h := zdg_9 (k - 144) (by omega)
    rwa [show 144 + (k - 144) = k by omega] at h
  by_cases h10 : k < 176
  · have h := zdg_10 (k - 160) (by omega)
    rwa [show 160 + (k - 160) = k by omega] at h
  by_cases h11 : k < 192
  · have h := zdg_11 (k - 176) (by omega)
    rwa [show 176 + (k - 176) = k by omega] at h
  by_cases h12 : k < 208
  · have h := zdg_12 (k - 192) (by omega)
    rwa [show 192 + (k - 192) = k by omega] at h
  by_cases h13 : k < 224
  · have h := zdg_13 (k - 208) (by omega)
    rwa [show 208 + (k - 208) = k by omega] at h
  by_cases h14 : k < 234
  · have h := zdg_14 (k - 224) (by omega)
    rwa [show 224 + (k - 224) = k by omega] at h
  omega
