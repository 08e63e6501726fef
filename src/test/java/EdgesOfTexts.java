/** Promises 5 to 7, sentence by sentence: feed, sign, fault, and the text of a CONTRACT. */
final class EdgesOfTexts {
    private static final int LOW = Edge.LOW;
    private static final int HIGH = Edge.HIGH;
    private static final int BLANKS = 0x20202020;
    private static final Scene BUSY = new Scene(Scenes::busy);
    private static final Scene NO_TAPE = new Scene(Scenes::busyWithoutTape);

    private EdgesOfTexts() {
    }

    static void all() {
        feeding();
        feedRefused();
        signing();
        signRefused();
        sixtyContracts();
        faultTold();
        statements();
        numbers();
        tokens();
        blanks();
        faultPlaces();
        statementCount();
    }

    /** A text that is a CONTRACT: the busy office's next one, without a FAULT. */
    private static void sound(String text) {
        Office x = NO_TAPE.office();
        Edge.due("sign of '" + text + "'", x.signText(0, 0, text), 4);
        Edge.due("fault of '" + text + "'", x.fault(), -1);
        Edge.due("CONTRACTS with '" + text + "'", x.count(3), 5);
        Edge.due("bytes behind '" + text + "'", x.count(5), 0);
    }

    /** A text with a FAULT at this place: the tape is empty, but no CONTRACT is signed. */
    private static void faulty(String text, int place) {
        Office x = NO_TAPE.office();
        Edge.due("sign of '" + text + "'", x.signText(0, 0, text), -1);
        Edge.due("fault of '" + text + "'", x.fault(), place);
        Edge.due("CONTRACTS behind '" + text + "'", x.count(3), 4);
        Edge.due("bytes behind '" + text + "'", x.count(5), 0);
        Edge.due("force behind '" + text + "'", x.force(0, 59, 59), 3);
        Edge.due("pay behind '" + text + "'", x.pay(0, 59, 59), 50);
    }

    private static int payTold(Office x, String text) {
        x.signText(0, 59, text);
        return x.pay(0, 59, 59);
    }

    private static void feeding() {
        Edge.sentence(5, "Twenty bytes come behind those on the tape,");
        Office x = NO_TAPE.office();
        x.feed(BLANKS, BLANKS, BLANKS, BLANKS, 0x70617920);
        x.feed(0x31323b20, BLANKS, BLANKS, BLANKS, BLANKS);
        Edge.due("sign of both", x.sign(0, 59, 23), 4);
        Edge.due("pay of both", x.pay(0, 59, 59), 12);
        x.feed(0x70617920, 0x373b2020, BLANKS, BLANKS, BLANKS);
        x.feed(0x70617920, 0x383b2020, BLANKS, BLANKS, BLANKS);
        Edge.due("sign of both", x.sign(0, 59, 40), 5);
        Edge.due("pay of the second", x.pay(0, 59, 59), 8);

        Edge.sentence(5, "of each number the highest first:");
        String[] texts = {"    pay 4;          ", "pay1;pay2;pay3;pay4;", "                pay;"};
        for (String text : texts) {
            for (int n = 0; n <= 20; n++) {
                bytesInTheirOrder(text, n);
            }
        }
        x = NO_TAPE.office();
        x.feed(0x7061792d, 0, 0, 0, 0);
        x.sign(0, 0, 4);
        Edge.due("fault in the lowest byte", x.fault(), 3);
        x.feed(0xf0617931, 0, 0, 0, 0);
        x.sign(0, 0, 4);
        Edge.due("fault in the highest byte", x.fault(), 0);

        Edge.sentence(5, "how many there are.");
        Edge.due("feed behind 40", BUSY.office().feed(0, 0, 0, 0, 0), 60);
        Edge.due("feed behind none", NO_TAPE.office().feed(LOW, HIGH, -1, 1, 0), 20);
        Edge.due("feed of a new object", new Office().feed(0, 0, 0, 0, 0), 20);
    }

    /** Where a part of a text is cut off tells which byte is where. */
    private static void bytesInTheirOrder(String text, int n) {
        Office whole = NO_TAPE.office();
        whole.feedText(text);
        Office part = NO_TAPE.office();
        part.feedText(text.substring(0, n) + "?");
        int signed = part.sign(0, 0, n);
        Edge.due("sign of " + n, whole.sign(0, 0, n), signed);
        Edge.due("fault of " + n, whole.fault(), part.fault());
        Edge.due("pay of " + n, whole.pay(0, 2, 59), part.pay(0, 2, 59));
    }

    private static void feedRefused() {
        Edge.sentence(5, "NONE, doing nothing: there would be more than 600.");
        Office x = BUSY.office();
        for (int there = 60; there <= 600; there += 20) {
            Edge.due("feed up to " + there, x.feed(BLANKS, BLANKS, BLANKS, BLANKS, BLANKS), there);
        }
        Edge.due("feed behind 600", x.feed(BLANKS, BLANKS, BLANKS, BLANKS, BLANKS), -1);
        Edge.due("bytes", x.count(5), 600);
        Scene full = new Scene(Scenes::fullTape);
        Edge.due("bytes", full.office().count(5), 600);
        full.changesNothing("feed behind 600", y -> y.feed(1, 2, 3, 4, 5), -1);
        full.changesNothing("feed behind 600", y -> y.feed(BLANKS, -1, LOW, HIGH, 0), -1);
        x.sign(0, 0, 0);
        Edge.due("feed when it is empty again", x.feed(0, 0, 0, 0, 0), 20);
    }

    private static void signing() {
        Edge.sentence(6, "The first n bytes of the tape");
        int[] faults = {-1, 0, 0, 3, 4, -1, 5, 5, 8, 9, -1, 10, 10, 13, 14, -1, 15, 15, 15, 15, 15};
        for (int n = 0; n <= 20; n++) {
            Office x = NO_TAPE.office();
            x.feedText("pay1;pay2;pay3;?????");
            boolean sound = faults[n] == -1;
            Edge.due("sign of the first " + n, x.sign(0, 59, n), sound ? 4 : -1);
            Edge.due("fault of the first " + n, x.fault(), faults[n]);
            Edge.due("pay of the first " + n, x.pay(0, 59, 59), sound ? n / 5 : 50);
        }

        Edge.sentence(6, "(which is empty then) are a CONTRACT,");
        Office x = BUSY.office();
        Edge.due("sign of a part", x.sign(0, 0, 7), 4);
        Edge.due("bytes", x.count(5), 0);
        Edge.due("sign of more", x.sign(0, 0, 1), -2);
        x = BUSY.office();
        Edge.due("sign of nothing", x.sign(0, 0, 0), 4);
        Edge.due("bytes", x.count(5), 0);
        x = BUSY.office();
        Edge.due("sign with a FAULT", x.sign(0, 0, 6), -1);
        Edge.due("bytes", x.count(5), 0);

        Edge.sentence(6, "SIGNED by a TURN from a WEEK (0 to 59) on:");
        for (int from : new int[] {0, 5, 59}) {
            x = BUSY.office();
            Edge.due("sign from " + from, x.sign(3, from, 7), 4);
            Edge.due("force in that WEEK", x.force(3, from, 5), 4);
            Edge.due("force in the last WEEK", x.force(3, 59, 5), 4);
            Edge.due("force in the WEEK ahead", x.force(3, from - 1, 5), -1);
            Edge.due("force as known before", x.force(3, from, 4), -1);
            Edge.due("force of another TURN", x.force(5, 59, 59), -1);
        }
        for (int from : new int[] {-1, 60, LOW, HIGH}) {
            BUSY.changesNothing("sign from " + from, y -> y.sign(3, from, 7), -2);
        }

        Edge.sentence(6, "its number.");
        x = BUSY.office();
        Edge.due("sign", x.sign(0, 0, 7), 4);
        Edge.due("sign by another", x.sign(5, 59, 0), 5);
        Edge.due("a FAULT", x.signText(5, 59, "?"), -1);
        Edge.due("sign behind it", x.sign(0, 0, 0), 6);
    }

    private static void signRefused() {
        Edge.sentence(6, "NONE: a FAULT;");
        Edge.due("sign of 7 bytes", BUSY.office().sign(0, 0, 7), 4);
        Office x = BUSY.office();
        Edge.due("sign of 6 bytes", x.sign(0, 0, 6), -1);
        Edge.due("CONTRACTS", x.count(3), 4);
        Edge.due("force", x.force(0, 0, 59), 0);
        faulty("?", 0);

        Edge.sentence(6, "-2, doing nothing: no such TURN, WEEK,");
        Edge.due("sign by the first TURN", BUSY.office().sign(0, 0, 7), 4);
        Edge.due("sign by the last TURN", BUSY.office().sign(5, 59, 7), 4);
        for (int turn : new int[] {-1, 6, 40, LOW, HIGH}) {
            BUSY.changesNothing("sign by " + turn, y -> y.sign(turn, 0, 7), -2);
            BUSY.changesNothing("sign of a FAULT by " + turn, y -> y.sign(turn, 0, 6), -2);
        }
        for (int from : new int[] {-1, 60, LOW, HIGH}) {
            BUSY.changesNothing("sign from " + from, y -> y.sign(0, from, 7), -2);
            BUSY.changesNothing("sign of a FAULT from " + from, y -> y.sign(0, from, 6), -2);
        }

        Edge.sentence(6, "n is below 0 or more than there are;");
        Edge.due("sign of 0", BUSY.office().sign(0, 0, 0), 4);
        Edge.due("sign of all", BUSY.office().sign(0, 0, 40), -1);
        for (int n : new int[] {-1, 41, 600, 601, LOW, HIGH}) {
            BUSY.changesNothing("sign of " + n, y -> y.sign(0, 0, n), -2);
        }
        Edge.due("sign of 0 of none", NO_TAPE.office().sign(0, 0, 0), 4);
        NO_TAPE.changesNothing("sign of 1 of none", y -> y.sign(0, 0, 1), -2);
        Scene full = new Scene(Scenes::fullTape);
        Edge.due("sign of 600 of 600", full.office().sign(0, 0, 600), -1);
        full.changesNothing("sign of 601 of 600", y -> y.sign(0, 0, 601), -2);
    }

    private static void sixtyContracts() {
        Edge.sentence(6, "-3, doing nothing: there are 60.");
        Office x = BUSY.office();
        for (int i = 4; i < 60; i++) {
            Edge.due("sign " + i, x.sign(i % 6, 59, 0), i);
        }
        Edge.due("the 61st", x.sign(0, 0, 0), -3);
        Scene sixty = new Scene(Scenes::sixtyContracts);
        Edge.due("CONTRACTS", sixty.office().count(3), 60);
        sixty.changesNothing("the 61st", y -> y.sign(0, 0, 7), -3);
        sixty.changesNothing("the 61st of nothing", y -> y.sign(0, 0, 0), -3);
        sixty.changesNothing("the 61st with a FAULT", y -> y.sign(0, 0, 6), -3);
        sixty.changesNothing("the 61st by no TURN", y -> y.sign(6, 0, 7), -2);
        sixty.changesNothing("the 61st from no WEEK", y -> y.sign(0, 60, 7), -2);
        sixty.changesNothing("the 61st of too many bytes", y -> y.sign(0, 0, 41), -2);

        Edge.sentence(6, "SIGNED (up to 60) by a TURN, from a WEEK on (any), NOW:");
        x = new Office();
        x.turn(3, 0, false, 0, 0);
        x.turn(3, 0, false, 1, 0);
        for (int i = 0; i < 60; i++) {
            Edge.due("sign " + i + " by one TURN", x.sign(1, 59 - i, 0), i);
        }
        Edge.due("the 61st by another", x.sign(0, 0, 0), -3);
        Edge.due("the 60th is in force", x.force(1, 0, 0), 59);
        Edge.due("the first is in force", x.force(1, 59, 0), 0);
        x = BUSY.office();
        Edge.due("from a WEEK ahead of NOW", x.sign(5, 0, 0), 4);
        Edge.due("from a WEEK behind NOW", x.sign(5, 59, 0), 5);
        Edge.due("force, ahead", x.force(5, 58, 5), 4);
        Edge.due("force, behind", x.force(5, 59, 5), 5);
        Edge.due("signed NOW, not before", x.force(5, 59, 4), -1);
    }

    private static void faultTold() {
        Edge.sentence(7, "The FAULT's place of the latest sign() that was a number or NONE;");
        BUSY.changesNothing("fault", Office::fault, 4);
        Office x = BUSY.office();
        x.sign(0, 0, 6);
        Edge.due("fault of a later one", x.fault(), 6);
        x.signText(0, 0, "pay 5");
        Edge.due("fault of the latest", x.fault(), 5);
        x.sign(6, 0, 0);
        x.sign(0, 60, 0);
        x.sign(0, 0, -1);
        x.sign(0, 0, 1);
        Edge.due("fault behind -2", x.fault(), 5);
        x.feedText("pay 1;");
        x.weeks(1);
        x.cancel(0, 59);
        Edge.due("fault behind other calls", x.fault(), 5);
        x.sign(0, 0, 6);
        Edge.due("fault behind a number", x.fault(), -1);

        Edge.sentence(7, "NONE: it had none.");
        Edge.due("fault of a new object", new Office().fault(), -1);
        x = BUSY.office();
        Edge.due("sign", x.sign(0, 0, 7), 4);
        Edge.due("fault", x.fault(), -1);
        x = BUSY.office();
        Edge.due("sign of nothing", x.sign(0, 0, 0), 4);
        Edge.due("fault", x.fault(), -1);
        x = new Office();
        Edge.due("sign without TURNS", x.sign(0, 0, 0), -2);
        Edge.due("fault", x.fault(), -1);
        Scene sixty = new Scene(Scenes::sixtyContracts);
        x = sixty.office();
        Edge.due("a FAULT with 60 there", x.sign(0, 0, 6), -3);
        Edge.due("fault", x.fault(), -1);
    }

    private static void statements() {
        Edge.sentence(6, "A CONTRACT is a text: {\"bar\" NUMBER \"weeks\" NUMBER \";\" |");
        sound("");
        sound("bar 0 weeks 0;");
        sound("bar 999 weeks 999;bar 1 weeks 1;");
        String[] bar = {"bar", "1", "weeks", "2", ";"};
        cutAndSpoilt(bar);

        Edge.sentence(6, "\"apart\" (\"like\" | \"turn\") NUMBER \";\" |");
        sound("apart like 0;");
        sound("apart turn 999;");
        cutAndSpoilt("apart", "like", "1", ";");
        cutAndSpoilt("apart", "turn", "1", ";");
        faulty("apart hall 1;", 6);
        faulty("apart like turn 1;", 11);
        faulty("apart turn like 1;", 11);

        Edge.sentence(6, "\"never\" \"hall\" NUMBER \";\" |");
        sound("never hall 0;");
        sound("never hall 999;");
        cutAndSpoilt("never", "hall", "1", ";");
        faulty("never turn 1;", 6);
        faulty("never like 1;", 6);

        Edge.sentence(6, "\"pay\" NUMBER \";\" |");
        sound("pay 0;");
        sound("pay 999;");
        cutAndSpoilt("pay", "1", ";");
        faulty("pay 1 weeks 1;", 6);

        Edge.sentence(6, "\"place\" NUMBER \";\"}.");
        sound("place 0;");
        sound("place 999;");
        cutAndSpoilt("place", "1", ";");
        faulty("place 1 weeks 1;", 8);
        sound("pay 1;place 1;bar 1 weeks 1;never hall 1;apart turn 1;apart like 1;pay 1;");
    }

    /** With each token the text may go on; ahead of its end more must come, and another token there is a FAULT. */
    private static void cutAndSpoilt(String... tokens) {
        String ahead = "";
        for (int i = 0; i < tokens.length; i++) {
            String[] others = {"bar", "weeks", "apart", "like", "turn", "never", "hall", "pay", "place", ";", "5",
                "1000", "?", "x", Character.isLetter(tokens[i].charAt(0)) ? tokens[i] + "x" : "xx"};
            for (String other : others) {
                if (!mayStand(tokens, i, other)) {
                    faulty(ahead + other, ahead.length());
                    faulty(ahead + other + " " + tokens[i], ahead.length());
                }
            }
            if (i > 0) {
                faulty(ahead, ahead.length());
                faulty(ahead.trim(), ahead.length() - 1);
            }
            ahead += tokens[i] + " ";
        }
        sound(ahead);
    }

    private static boolean mayStand(String[] tokens, int i, String other) {
        boolean opens = i == 0 && "bar apart never pay place".contains(other);
        boolean either = tokens[0].equals("apart") && i == 1 && (other.equals("like") || other.equals("turn"));
        boolean number = Character.isDigit(tokens[i].charAt(0)) && other.equals("5");
        return opens || either || number || other.equals(tokens[i]);
    }

    private static void numbers() {
        Edge.sentence(6, "NUMBER: one to three digits.");
        String[] heads = {"pay ", "place ", "never hall ", "apart like ", "apart turn ", "bar ", "bar 1 weeks "};
        for (String head : heads) {
            String tail = head.equals("bar ") ? "weeks 1;" : ";";
            for (String number : new String[] {"0", "9", "00", "99", "000", "007", "999"}) {
                sound(head + number + tail);
            }
            faulty(head + tail, head.length());
            for (String number : new String[] {"0000", "0001", "1000", "9999", "00000", "4294967297"}) {
                faulty(head + number + tail, head.length());
            }
        }
        Edge.due("pay of 1 digit", payTold(NO_TAPE.office(), "pay 7;"), 7);
        Edge.due("pay of 2 digits", payTold(NO_TAPE.office(), "pay 70;"), 70);
        Edge.due("pay of 3 digits", payTold(NO_TAPE.office(), "pay 701;"), 701);
        Edge.due("pay with 0 ahead", payTold(NO_TAPE.office(), "pay 017;"), 17);
        Edge.due("pay, the least", payTold(NO_TAPE.office(), "pay 000;"), 0);
        Edge.due("pay, the most", payTold(NO_TAPE.office(), "pay 999;"), 999);
    }

    private static void tokens() {
        Edge.sentence(6, "Tokens as long as they go:");
        sound("pay 123;");
        faulty("pay 12 3;", 7);
        faulty("pay 1234;", 4);
        sound("pay1;bar2weeks3;never hall4;");
        faulty("payx 1;", 0);
        faulty("paypay 1;", 0);
        faulty("neverhall 1;", 0);
        faulty("never hall1x;", 11);
        faulty("apartlike 1;", 0);
        faulty("apart liketurn 1;", 6);
        faulty("bar 1 weeksweeks 1;", 6);
        faulty("p ay 1;", 0);

        Edge.sentence(6, "words of letters a to z, digits, \";\";");
        faulty("paya 1;", 0);
        faulty("payz 1;", 0);
        faulty("pay` 1;", 3);
        faulty("pay{ 1;", 3);
        faulty("Pay 1;", 0);
        faulty("pAy 1;", 0);
        faulty("pay 1/", 5);
        faulty("pay 1:", 5);
        faulty("pay 1<", 5);
        faulty("pay /1;", 4);
        faulty("pay :1;", 4);
        sound("pay 1;");
        sound("pay 0;");
        sound("pay 9;");
        faulty("pay 1;;", 6);
        faulty("pay 1" + (char) ('1' + 128) + ";", 5);
        faulty("pay" + (char) ('a' + 128) + " 1;", 3);
        faulty("pay 1" + (char) (';' + 128), 5);
    }

    private static void blanks() {
        Edge.sentence(6, "between them blanks (bytes 32 and 10).");
        sound("pay 1 ;");
        sound("pay\n1\n;\n");
        sound(" \n pay \n\n 1 \n ; \n ");
        sound(" ");
        sound("\n");
        sound(" ".repeat(600));
        sound(" ".repeat(300) + "pay 1;" + "\n".repeat(294));
        for (int other = 0; other < 256; other++) {
            boolean blank = other == 32 || other == 10;
            boolean letterOrDigit = other >= 'a' && other <= 'z' || other >= '0' && other <= '9';
            if (blank) {
                sound("pay" + (char) other + "1;" + (char) other);
                sound("" + (char) other);
            } else if (!letterOrDigit) {
                faulty("pay" + (char) other + "1;", 3);
                faulty("pay 1" + (other == ';' ? ";" : "") + (char) other + ";", other == ';' ? 6 : 5);
                faulty("" + (char) other, 0);
            }
        }
    }

    private static void faultPlaces() {
        Edge.sentence(7, "FAULT: the place of the first byte of the first token (or byte that begins none) "
                + "with which no such text goes on;");
        faulty("x", 0);
        faulty("xyz", 0);
        faulty("  xyz", 2);
        faulty("pay xyz ? pay", 4);
        faulty("pay 1; xyz", 7);
        faulty("pay 1;?", 6);
        faulty("pay 1; pay ?;", 11);
        faulty("1", 0);
        faulty(";", 0);
        faulty("weeks 1;", 0);
        faulty("like 1;", 0);
        faulty("turn 1;", 0);
        faulty("hall 1;", 0);
        faulty(" ".repeat(599) + "x", 599);
        faulty("x" + " ".repeat(599), 0);
        faulty(" ".repeat(300) + "pay 1; pay" + " ".repeat(289) + "?", 599);

        Edge.sentence(7, "the text's length, if more must come;");
        faulty("pay", 3);
        faulty("pay 1", 5);
        faulty("pay 1 ", 6);
        faulty("pay 1\n\n\n", 8);
        faulty("pay 1; bar 1 weeks", 18);
        faulty(" ".repeat(597) + "pay", 600);
        faulty("pay" + " ".repeat(597), 600);
        Office x = NO_TAPE.office();
        x.feedText("pay 12;");
        Edge.due("sign of a part", x.sign(0, 0, 5), -1);
        Edge.due("the part's length", x.fault(), 5);
        x.feedText("pay 1234;");
        Edge.due("sign of a part of a NUMBER", x.sign(0, 59, 7), -1);
        Edge.due("the part's length", x.fault(), 7);
        x.feedText("payx 1;");
        Edge.due("sign of a part of a word", x.sign(0, 59, 3), -1);
        Edge.due("the part's length", x.fault(), 3);
    }

    private static void statementCount() {
        String eleven = "pay 5;".repeat(11);
        Edge.sentence(6, "At most 12 statements.");
        sound(eleven);
        sound(eleven + "bar 1 weeks 2;");
        sound(eleven + "pay 6;  \n");
        faulty(eleven + "pay 6;pay 7;", 72);
        Edge.due("the 12th counts", payTold(NO_TAPE.office(), eleven + "pay 6;"), 6);
        String longOnes = "bar 100 weeks 100; ".repeat(12);
        sound(longOnes);
        faulty(longOnes + "pay 1;", longOnes.length());

        Edge.sentence(7, "the 13th statement: where it begins.");
        String twelve = eleven + "pay 6;";
        faulty(twelve + "pay", 72);
        faulty(twelve + "  \n pay 7;", 76);
        faulty(twelve + "pay 1000;", 72);
        faulty(twelve + "bar 1 weeks 2; ?", 72);
        faulty(twelve + "pay 7;".repeat(20), 72);
        faulty(twelve + "x", 72);
        faulty(twelve + " ?", 73);
        faulty(eleven + "pay 6", 71);
        faulty(eleven + "?", 66);
        faulty(eleven + "pay ?;pay 7;", 70);
    }
}
