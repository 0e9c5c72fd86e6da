/** Promises 6 and 10 to 12: doAll, type, clearText, fault. */
public final class TextsTest {
    public static void main(String[] args) {
        typing();
        textsWithoutFault();
        faults();
        everySignAtEveryPlace();
        doesAllParts();
        refusedParts();
        doesAllOrNothing();
        Due.end();
    }

    private static void typing() {
        MillComplaints desk = new MillComplaints();
        Due.due("clearText of the empty text", desk.clearText(), 0);
        for (int sign = 1; sign <= 60; sign++) {
            Due.due("type " + sign, desk.type((char) (sign == 1 ? 0 : 65535)), sign);
        }
        Due.due("type 61", desk.type('h'), -3);
        Due.due("length", desk.count(11), 60);
        Due.due("fault", desk.fault(), 0);
        Due.due("clearText", desk.clearText(), 60);
        Due.due("length", desk.count(11), 0);
        Due.due("type", desk.type('h'), 1);
        Due.due("no act", desk.count(10), 0);
        Due.due("fault is where it ends", desk.fault(), 1);
        StringBuilder full = new StringBuilder("h@a0");
        while (full.length() < 59) {
            full.append(";h@a1");
        }
        Due.type(desk, full.append("x").substring(0, 60));
        Due.due("a fault at the last sign", desk.fault(), 59);
        Due.due("doAll", desk.doAll(), -159);
        Due.type(desk, full.substring(0, 59) + ";");
        Due.due("a full text that ends too early", desk.fault(), 60);
        Due.due("doAll", desk.doAll(), -160);
    }

    private static void textsWithoutFault() {
        String[] texts = {"m1@a0", "m5@l7", "h@a0", "h@l7", "w0=0", "w1=9", "w2=3", "w9=9", "w10=0", "w19=0", "w20=0",
            "w23=9", "c00n0", "c93s1", "c00n2", "c00s9", "c00n10", "c00s19", "c00n20", "c00n23", "h@a0;h@a0",
            "c00n1;c00n2;c00n23;m1@a0", "w1=1;w2=2;w12=3", "c00n0;h@b3"};
        for (String text : texts) {
            MillComplaints desk = new MillComplaints();
            Due.type(desk, text);
            Due.due("fault of " + text, desk.fault(), -5);
        }
    }

    private static void faults() {
        Object[][] rows = {{"", 0}, {"x", 0}, {";", 0}, {"M1@a0", 0}, {"1", 0}, {"m", 1}, {"m0@a0", 1}, {"m6@a0", 1},
            {"m@a0", 1}, {"m1", 2}, {"m1a0", 2}, {"m12@a0", 2}, {"m1@", 3}, {"m1@m0", 3}, {"m1@A0", 3}, {"m1@`0", 3},
            {"m1@0a", 3}, {"m1@a", 4}, {"m1@a8", 4}, {"m1@a/", 4}, {"m1@a0;", 6}, {"m1@a00", 5}, {"m1@a0,", 5},
            {"m1@a0;;", 6}, {"h", 1}, {"ha0", 1}, {"h1@a0", 1}, {"h@", 2}, {"h@a0h@a1", 4}, {"w", 1}, {"w=1", 1},
            {"wx", 1}, {"w0", 2}, {"w1", 2}, {"w00=1", 2}, {"w01=1", 2}, {"w24=1", 2}, {"w29=1", 2}, {"w30=1", 2},
            {"w99=1", 2}, {"w100=1", 3}, {"w12", 3}, {"w123=1", 3}, {"w230", 3}, {"w1;", 2}, {"w1=", 3}, {"w1=x", 3},
            {"w1=10", 4}, {"w1=;", 3}, {"w-1=1", 1}, {"c", 1}, {"cn", 1}, {"c0", 2}, {"c04", 2}, {"c0n", 2}, {"c00", 3},
            {"c000", 3}, {"c00N1", 3}, {"c00n", 4}, {"c00n;", 4}, {"c00n00", 5}, {"c00n05", 5}, {"c00n24", 5},
            {"c00n30", 5}, {"c00s100", 6}, {"c00s239", 6}, {"c00s1=", 5}, {"c00s2x", 5}, {"c00s12x", 6}, {" h@a0", 0},
            {"h@a0 ", 4}, {"h@a0;x", 5}, {"h@a0;w24", 7}, {"c00n23;w0=0;m6@a0", 13}};
        for (Object[] row : rows) {
            String text = (String) row[0];
            MillComplaints desk = new MillComplaints();
            Due.type(desk, text);
            Due.due("fault of " + text, desk.fault(), (Integer) row[1]);
            Due.due("doAll of " + text, desk.doAll(), -100 - (Integer) row[1]);
            Due.due("no act: " + text, desk.count(10), 0);
        }
    }

    /** Each text, cut at a place, and any sign of 0 to 299 put there: just those signs are allowed. */
    private static void everySignAtEveryPlace() {
        String[][] rows = {{"", "mhwc"}, {"m", "12345"}, {"m1", "@"}, {"m1@", "abcdefghijkl"}, {"m1@a", "01234567"},
            {"m1@a0", ";"}, {"m1@a0;", "mhwc"}, {"h", "@"}, {"h@", "abcdefghijkl"}, {"h@a", "01234567"}, {"h@a0", ";"},
            {"w", "0123456789"}, {"w0", "="}, {"w1", "=0123456789"}, {"w2", "=0123"}, {"w3", "="}, {"w9", "="},
            {"w10", "="}, {"w23", "="}, {"w0=", "0123456789"}, {"w0=0", ";"}, {"c", "0123456789"}, {"c0", "0123"},
            {"c00", "ns"}, {"c00n", "0123456789"}, {"c00s", "0123456789"}, {"c00n0", ";"}, {"c00n1", ";0123456789"},
            {"c00n2", ";0123"}, {"c00n3", ";"}, {"c00n10", ";"}, {"c00n23", ";"}};
        for (String[] row : rows) {
            for (int sign = 0; sign < 300; sign++) {
                MillComplaints desk = new MillComplaints();
                Due.type(desk, row[0]);
                desk.type((char) sign);
                boolean isFaultHere = desk.fault() == row[0].length();
                boolean isAllowed = row[1].indexOf(sign) >= 0;
                Due.due("sign " + sign + " after " + row[0] + " is allowed", isFaultHere ? 0 : 1, isAllowed ? 1 : 0);
            }
        }
    }

    private static void doesAllParts() {
        MillComplaints desk = new MillComplaints();
        Due.type(desk, "m2@c3;h@l7;h@b3;w9=4;w23=3;c10s9;c10s9;c00n12;m5@a0");
        Due.due("doAll", desk.doAll(), 9);
        Due.due("one act", desk.count(10), 1);
        Due.due("the text stays", desk.count(11), 51);
        Due.due("height", desk.millOf(0, 0), 2);
        Due.due("yard of the mill 0", desk.millOf(0, 1), Due.yard(2, 3));
        Due.due("yard of the house 0", desk.houseOf(0, 0), 95);
        Due.due("yard of the house 1", desk.houseOf(1, 0), Due.yard(1, 3));
        Due.due("yard of the mill 1", desk.millOf(1, 1), 0);
        Due.due("height of the mill 1", desk.millOf(1, 0), 5);
        Due.due("the wind at 9", desk.wind(9, 9, 4), -5);
        Due.due("heard", desk.count(2), 1);
        Due.due("a vain one counts", desk.count(3), 1);
        Due.due("vain of 0", desk.houseOf(0, 1), 1);
        Due.due("vain of 1", desk.houseOf(1, 1), 0);
        Due.due("undo", desk.undo(), 0);
        Due.due("mills", desk.count(0), 0);
        Due.due("houses", desk.count(1), 0);
        Due.due("heard", desk.count(2), 0);
        Due.due("the wind at 9", desk.wind(9, 9, 3), -5);
        Due.due("the text is no part of the state", desk.count(11), 51);
        Due.type(desk, "w5=3");
        Due.due("a wind that is so already", desk.doAll(), 1);
        Due.due("is an act of doAll", desk.count(10), 1);
        Due.type(desk, "w5=7;w10=0;w23=9;w2=1;w1=2");
        Due.due("winds", desk.doAll(), 5);
        int[][] winds = {{5, 7}, {10, 0}, {23, 9}, {2, 1}, {1, 2}, {0, 3}, {3, 3}};
        for (int[] row : winds) {
            Due.due("the wind at " + row[0], desk.wind(row[0], row[0], row[1]), -5);
        }
    }

    private static void refusedParts() {
        MillComplaints desk = new MillComplaints();
        Due.type(desk, "m1@a0;h@b0;w0=1;c00n0;c00s0;c00n12;c00n1;c00n23");
        Due.due("a barred house is no error", desk.doAll(), 8);
        Due.due("barred", desk.houseOf(0, 2), 1);
        Due.due("refused", desk.count(3), 3);
        Due.due("heard", desk.count(2), 0);
        Due.type(desk, "c00n1;c00n1");
        Due.due("refused parts alone", desk.doAll(), 2);
        Due.due("are an act", desk.count(10), 2);
        MillComplaints other = new MillComplaints();
        other.set(2, 1);
        Due.type(other, "m1@a0;h@b0;h@a1;c00n0;c00n0;c10n0;c10n22;c10s1");
        Due.due("one that stands, one with tied sails", other.doAll(), 8);
        Due.due("heard", other.count(2), 2);
        Due.due("refused", other.count(3), 1);
        Due.due("tied", other.millOf(0, 2), 1 << 22 | 1);
    }

    private static void doesAllOrNothing() {
        MillComplaints desk = new MillComplaints();
        desk.mill(1, 0);
        Object[][] rows = {{"h@b0;w1=9;c00n1;m2@b0", -4}, {"h@b0;h@b0", -4}, {"h@b0;h@a0", -4}, {"w1=9;c00n1", -1},
            {"h@b0;c10n1", -1}, {"h@b0;c01n1", -1}, {"m1@b0;m1@c0;m1@d0;m1@e0", -3}, {"m1@b0;m1@c0;m1@d0;m1@d0", -4},
            {"c90n1;m1@a0", -1}, {"m1@a0;c90n1", -4}, {"h@b0;c00n12;c00n12;c03s2", -1},
            {"h@a1;h@a2;h@a3;h@a4;h@a5;h@a6;h@a7;h@b1;h@b2;h@b3;h@b4", -3}};
        for (Object[] row : rows) {
            Due.type(desk, (String) row[0]);
            Due.due("doAll of " + row[0], desk.doAll(), (Integer) row[1]);
            Due.due("mills", desk.count(0), 1);
            Due.due("houses", desk.count(1), 0);
            Due.due("heard", desk.count(2), 0);
            Due.due("refused", desk.count(3), 0);
            Due.due("states", desk.count(10), 1);
            Due.due("the wind at 1", desk.wind(1, 1, 3), -5);
            Due.due("the text stays", desk.count(11), ((String) row[0]).length());
        }
    }
}
