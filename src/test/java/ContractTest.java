/** Promises 5 to 8 and 18: feed, sign, fault, force, pay. */
public final class ContractTest {
    private static final int LOW = Integer.MIN_VALUE;
    private static final int HIGH = Integer.MAX_VALUE;

    private ContractTest() {
    }

    public static void main(String[] args) {
        tapeTakesSixHundredBytes();
        bytesComeHighestFirst();
        signRefuses();
        sixtyContractsAtMost();
        soundTexts();
        faultsHaveTheirPlaces();
        textsEndWhereTold();
        statementsAreCounted();
        faultIsOfTheLatestSign();
        forceChooses();
        forceRefuses();
        payIsOfTheLastStatement();
        payIsAsKnown();
        Due.end();
    }

    private static Office office() {
        Office x = new Office();
        x.turn(5, 0, false, 0, 0);
        x.turn(5, 0, false, 1, 0);
        x.hall(0, 100, 60);
        return x;
    }

    private static void tapeTakesSixHundredBytes() {
        Office x = office();
        for (int i = 1; i <= 30; i++) {
            Due.due("feed " + i, x.feed(LOW, HIGH, -1, 0, i), 20 * i);
        }
        Due.due("feed 31", x.feed(0, 0, 0, 0, 0), -1);
        Due.due("bytes on the tape", x.count(5), 600);
        Due.due("sign of bytes that are none", x.sign(0, 0, 600), -1);
        Due.due("their FAULT", x.fault(), 0);
        Due.due("bytes behind it", x.count(5), 0);
        Due.due("feed again", x.feed(0, 0, 0, 0, 0), 20);
    }

    private static void bytesComeHighestFirst() {
        Office x = office();
        x.book(0, 0, 0);
        // "pay 12;" goes over two numbers, "pay999;" over two feeds.
        x.feed(0x70617920, 0x31323b20, 0x20202020, 0x20200a20, 0x20202020);
        Due.due("sign", x.sign(0, 0, 20), 0);
        Due.due("pay", x.pay(0, 0, 0), 12);
        x.feed(0x20202020, 0x20202020, 0x20202020, 0x20202070, 0x61793939);
        x.feed(0x393b2020, 0x20202020, 0x20202020, 0x20202020, 0x20202020);
        Due.due("sign over two feeds", x.sign(0, 0, 22), 1);
        Due.due("pay", x.pay(0, 0, 0), 999);
    }

    private static void signRefuses() {
        Office x = office();
        x.feed(0x20202020, 0x20202020, 0x20202020, 0x20202020, 0x20202020);
        int[][] wrong = {
            {-1, 0, 0}, {2, 0, 0}, {HIGH, 0, 0}, {LOW, 0, 0}, {0, -1, 0}, {0, 60, 0}, {0, HIGH, 0},
            {0, 0, -1}, {0, 0, 21}, {0, 0, LOW}, {0, 0, HIGH}
        };
        for (int[] s : wrong) {
            Due.due("sign not as told", x.sign(s[0], s[1], s[2]), -2);
            Due.due("bytes behind it", x.count(5), 20);
            Due.due("CONTRACTS behind it", x.count(3), 0);
        }
        Due.due("sign", x.sign(1, 59, 20), 0);
        Due.due("bytes behind it", x.count(5), 0);
        Due.due("sign of more than there are", x.sign(1, 59, 1), -2);
        Due.due("sign of nothing", x.sign(1, 59, 0), 1);
        x.feedText("pay 1; pay 2;");
        Due.due("sign of a part", x.sign(0, 0, 6), 2);
        Due.due("the rest is gone", x.count(5), 0);
    }

    private static void sixtyContractsAtMost() {
        Office x = office();
        for (int i = 0; i < 60; i++) {
            Due.due("sign " + i, x.sign(i % 2, i, 0), i);
        }
        x.feedText("pay 1;");
        Due.due("the 61st", x.sign(0, 0, 6), -3);
        Due.due("bytes behind it", x.count(5), 20);
        Due.due("CONTRACTS", x.count(3), 60);
        Due.due("the 61st, not as told", x.sign(0, 60, 6), -2);
        Due.due("the 61st, a FAULT's text", x.sign(0, 0, 3), -3);
        Due.due("bytes behind it", x.count(5), 20);
        Due.due("fault", x.fault(), -1);
    }

    private static void soundTexts() {
        String[] sound = {
            "", " ", "\n", " \n \n", "bar 1 weeks 2;", "bar1weeks2;", "bar\n999\nweeks\n000\n;\n", "apart like 9;",
            "apart turn 39;", "apart like 999;apart turn 999;", "never hall 9;", "pay 0;", "pay 007;",
            "place 9;", "place0;", "pay1;pay2;place3;never hall4;apart like5;apart turn6;bar7weeks8;",
        };
        for (String text : sound) {
            Office x = office();
            Due.due("sign of '" + text + "'", x.signText(0, 0, text), 0);
            Due.due("fault of '" + text + "'", x.fault(), -1);
        }
    }

    private static void faultsHaveTheirPlaces() {
        faultAt("b", 0);
        faultAt("bars 1 weeks 2;", 0);
        faultAt("  ba r", 2);
        faultAt("bar", 3);
        faultAt("bar  \n", 6);
        faultAt("bar ;", 4);
        faultAt("bar weeks", 4);
        faultAt("bar 1", 5);
        faultAt("bar 1;", 5);
        faultAt("bar 1 2", 6);
        faultAt("bar 1 week 2;", 6);
        faultAt("bar 1 weekss 2;", 6);
        faultAt("bar 1 weeks", 11);
        faultAt("bar 1 weeks ;", 12);
        faultAt("bar 1 weeks 2", 13);
        faultAt("bar 1 weeks 2 3", 14);
        faultAt("bar 1 weeks 2000;", 12);
        faultAt("bar 1000 weeks 2;", 4);
        faultAt("apart", 5);
        faultAt("apart 1;", 6);
        faultAt("apart hall 1;", 6);
        faultAt("apart like", 10);
        faultAt("apart liketurn 1;", 6);
        faultAt("apart turn like", 11);
        faultAt("apart turn 1", 12);
        faultAt("apart turn 1 weeks 2;", 13);
        faultAt("neverhall 1;", 0);
        faultAt("never 1;", 6);
        faultAt("never turn 1;", 6);
        faultAt("never hall;", 10);
        faultAt("never hall 1 2;", 13);
        faultAt("pay", 3);
        faultAt("pay 1 weeks 2;", 6);
        faultAt("pay 0001;", 4);
        faultAt("pay 12 3;", 7);
        faultAt("pay -1;", 4);
        faultAt("pay 1,", 5);
        faultAt("place", 5);
        faultAt("place x;", 6);
        faultAt("pay 1; ;", 7);
        faultAt("pay 1;;", 6);
        faultAt("pay 1;1", 6);
        faultAt(";", 0);
        faultAt("7", 0);
        faultAt("like", 0);
        faultAt("weeks", 0);
        faultAt("pay 1;pay", 9);
        faultAt("Pay 1;", 0);
        faultAt("pay\t1;", 3);
        faultAt("pay\r\n1;", 3);
        faultAt("pay 1;\0", 6);
        faultAt("pay 1;" + (char) 255, 6);
        faultAt("pa" + (char) 225, 0);
        faultAt("pay" + (char) 176 + ";", 3);
        faultAt("pay 1{", 5);
        faultAt("`", 0);
        faultAt("pay/1;", 3);
        faultAt("pay:1;", 3);
    }

    private static void faultAt(String text, int place) {
        Office x = office();
        x.signText(0, 0, "pay 3;");
        x.book(0, 0, 0);
        Due.due("sign of '" + text + "'", x.signText(0, 0, text), -1);
        Due.due("fault of '" + text + "'", x.fault(), place);
        Due.due("bytes behind it", x.count(5), 0);
        Due.due("CONTRACTS behind it", x.count(3), 1);
        Due.due("force behind it", x.force(0, 0, 0), 0);
        Due.due("pay behind it", x.pay(0, 0, 0), 3);
    }

    /** What lies on the tape behind the text is no part of it. */
    private static void textsEndWhereTold() {
        String[] tapes = {"bars", "pay 12;", "pay 1;7", "pay 1;pay", "pay 1234", "x", "pay 1;;", "pay ;"};
        int[] lengths = {3, 5, 6, 6, 7, 0, 6, 4};
        int[] faults = {3, 5, -1, -1, 7, -1, -1, 4};
        for (int i = 0; i < tapes.length; i++) {
            Office x = office();
            x.feedText(tapes[i]);
            Due.due("sign of a part of '" + tapes[i] + "'", x.sign(0, 0, lengths[i]), faults[i] == -1 ? 0 : -1);
            Due.due("fault of a part of '" + tapes[i] + "'", x.fault(), faults[i]);
        }
    }

    private static void statementsAreCounted() {
        String twelve = "";
        for (int i = 0; i < 12; i++) {
            twelve += "pay " + i + ";\n";
        }
        Office x = office();
        x.book(0, 0, 0);
        Due.due("twelve statements", x.signText(0, 0, twelve), 0);
        Due.due("pay", x.pay(0, 0, 0), 11);
        Due.due("twelve and blanks", x.signText(0, 0, twelve + "  \n"), 1);
        faultAt(twelve + " pay 12;", twelve.length() + 1);
        faultAt(twelve + "bar 1000", twelve.length());
        faultAt(twelve + "x", twelve.length());
        faultAt(twelve + "?", twelve.length());
        faultAt(twelve.replace("11;", "11 "), twelve.length());
    }

    private static void faultIsOfTheLatestSign() {
        Office x = office();
        Due.due("fault at first", x.fault(), -1);
        x.signText(0, 0, "pay x;");
        Due.due("fault", x.fault(), 4);
        Due.due("sign refused", x.sign(5, 0, 0), -2);
        Due.due("fault behind a refused one", x.fault(), 4);
        Due.due("sign", x.sign(0, 0, 0), 0);
        Due.due("fault behind a sound one", x.fault(), -1);
        x.signText(0, 0, "pay");
        Due.due("fault", x.fault(), 3);
    }

    private static void forceChooses() {
        Office x = office();
        x.sign(0, 10, 0);
        x.sign(1, 0, 0);
        x.weeks(5);
        x.sign(0, 4, 0);
        x.sign(0, 10, 0);
        x.weeks(5);
        x.sign(0, 4, 0);
        x.sign(0, 0, 0);
        int[][] due = {
            {9, 0, -1}, {10, 0, 0}, {59, 4, 0}, {10, 5, 3}, {9, 5, 2}, {9, 9, 2}, {9, 10, 4}, {4, 10, 4},
            {3, 9, -1}, {3, 10, 5}, {0, 59, 5}, {59, 59, 3}, {10, 10, 3}
        };
        for (int[] d : due) {
            Due.due("force(0, " + d[0] + ", " + d[1] + ")", x.force(0, d[0], d[1]), d[2]);
        }
        Due.due("force of another", x.force(1, 59, 59), 1);
    }

    private static void forceRefuses() {
        Office x = office();
        x.sign(0, 0, 0);
        Due.due("force", x.force(0, 59, 59), 0);
        int[][] wrong = {
            {-1, 0, 0}, {1, 0, 0}, {2, 0, 0}, {LOW, 0, 0}, {HIGH, 0, 0}, {0, -1, 0}, {0, 60, 0}, {0, HIGH, 0},
            {0, 0, -1}, {0, 0, 60}, {0, 0, HIGH}, {0, 0, LOW}
        };
        for (int[] f : wrong) {
            Due.due("force of none such", x.force(f[0], f[1], f[2]), -1);
        }
    }

    private static void payIsOfTheLastStatement() {
        Office x = office();
        x.book(0, 0, 0);
        Due.due("pay without a CONTRACT", x.pay(0, 0, 0), 0);
        x.signText(0, 0, "pay 10; pay 5; place 3;");
        Due.due("pay, the last one", x.pay(0, 0, 0), 5);
        x.signText(0, 0, "place 3; never hall 4; apart like 5; apart turn 6; bar 7 weeks 8;");
        Due.due("pay, none told", x.pay(0, 0, 0), 0);
        x.signText(0, 0, "pay 999;");
        Due.due("pay", x.pay(0, 0, 0), 999);
        Due.due("pay of one not booked", x.pay(0, 1, 0), 0);
        x.cancel(0, 0);
        Due.due("pay of one cancelled", x.pay(0, 0, 0), 0);
    }

    private static void payIsAsKnown() {
        Office x = office();
        x.book(0, 0, 0);
        x.book(0, 0, 8);
        x.signText(0, 0, "pay 1;");
        x.weeks(3);
        x.signText(0, 0, "pay 2;");
        x.signText(0, 8, "pay 3;");
        int[][] due = {{0, 2, 1}, {0, 3, 2}, {0, 59, 2}, {8, 2, 1}, {8, 3, 3}, {7, 3, 0}};
        for (int[] d : due) {
            Due.due("pay(0, " + d[0] + ", " + d[1] + ")", x.pay(0, d[0], d[1]), d[2]);
        }
        int[][] wrong = {{-1, 0, 3}, {2, 0, 3}, {0, -1, 3}, {0, 60, 3}, {0, 0, -1}, {0, 0, 60}, {HIGH, LOW, HIGH}};
        for (int[] p : wrong) {
            Due.due("pay of none such", x.pay(p[0], p[1], p[2]), 0);
        }
    }
}
