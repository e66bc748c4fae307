import java.util.Random;

/** Random runs: only promised exceptions come, a call that throws changes nothing, what is written is read again. */
public final class RandomTest {
    private static final String PARTS = "()[]{};$!?.*\"\\0123456789 \n-/xO+#=abcdefghNBRQK";
    private static final String[] SEEDS = {
        "[Event \"A \\\"day\\\"\"] {x} 1. e4! (1. d4 d5 (1... Nf6 {y}) 2. c4) 1... e5 $7 ;z\n 2. Nf3 Nc6 1/2-1/2",
        "[FEN \"r3k2r/1P4P1/8/3pP3/8/8/8/R3K2R w KQkq d6 0 37\"] 37. exd6 (37. O-O-O Kf7 38. gxh8=N+) 37... Rxa1+ 0-1",
        "e4 (d4 d5 (Nf6 c4 (Nf3 g6 (e6 g3 (Bf4 c5 (b6))))))*"};

    public static void main(String[] args) {
        Random random = new Random(20);
        for (int run = 0; run < 300; run++) {
            anyCalls(random);
        }
        for (int run = 0; run < 300; run++) {
            spoiledTexts(random);
        }
        for (int run = 0; run < 60; run++) {
            grownTrees(random);
        }
        Check.close("RandomTest");
    }

    private static int anyInt(Random random) {
        switch (random.nextInt(6)) {
            case 0:
                return random.nextInt();
            case 1:
                return random.nextInt(1 << 15);
            case 2:
                return new int[] {Integer.MIN_VALUE, Integer.MAX_VALUE, -1, 300, 301, 255, 256}[random.nextInt(7)];
            default:
                return random.nextInt(9) - 1;
        }
    }

    private static long call(MoveTexts x, int which, int a, int b) {
        switch (which) {
            case 0:
                return x.signs(a);
            case 1:
                return x.node(a, b);
            case 2:
                return x.mark(a, b);
            case 3:
                return x.remark(a, b);
            case 4:
                x.go(a);
                return 0;
            case 5:
                return x.man(a);
            case 6:
                return x.add(a);
            case 7:
                return x.addMark(a);
            case 8:
                return x.say();
            case 9:
                return x.lead() ? 1 : 0;
            case 10:
                x.end(a);
                return 0;
            case 11:
                return x.tag(a, (b & 1) == 0, b);
            case 12:
                return x.move(a);
            case 13:
                return x.out(a);
            case 14:
                return x.cut(a) ? 1 : 0;
            case 15:
                return x.find();
            case 16:
                return x.write();
            default:
                return x.read();
        }
    }

    private static final String[] PROMISED = {"IllegalArgumentException", "IndexOutOfBoundsException", "IndexOutOfBoundsException",
        "IndexOutOfBoundsException", "IndexOutOfBoundsException", "IndexOutOfBoundsException",
        "IllegalArgumentException UnsupportedOperationException", "IllegalArgumentException IllegalStateException",
        "IllegalArgumentException", "IllegalStateException", "IllegalArgumentException", "IndexOutOfBoundsException",
        "", "", "", "", "", ""};

    private static void anyCalls(Random random) {
        MoveTexts x = Check.game(SEEDS[random.nextInt(SEEDS.length)]);
        for (int i = 0; i < 150; i++) {
            if (random.nextInt(4) == 0) {
                x.type(random.nextBoolean() ? random.nextLong() : 0x2A2A7D2A34652A20L >>> random.nextInt(30), random.nextInt(10));
            }
            int which = random.nextInt(PROMISED.length);
            int a = anyInt(random);
            if ((which == 0 || which == 6) && random.nextInt(3) > 0) {
                a = x.move(random.nextInt(30));
            }
            String before = Check.state(x) + Check.out(x);
            String what = "call " + which + " of " + a;
            try {
                call(x, which, a, anyInt(random));
            } catch (RuntimeException e) {
                String name = e.getClass().getSimpleName();
                Check.due(what + " throws " + name, (" " + PROMISED[which] + " ").contains(" " + name + " "), true);
                Check.due(what + " changes nothing", Check.state(x) + Check.out(x), before);
            }
        }
    }

    private static void spoiledTexts(Random random) {
        StringBuilder text = new StringBuilder(SEEDS[random.nextInt(SEEDS.length)]);
        for (int n = random.nextInt(4); n >= 0; n--) {
            int place = random.nextInt(text.length());
            char c = PARTS.charAt(random.nextInt(PARTS.length()));
            switch (random.nextInt(3)) {
                case 0:
                    text.deleteCharAt(place);
                    break;
                case 1:
                    text.insert(place, c);
                    break;
                default:
                    text.setCharAt(place, c);
                    break;
            }
        }
        MoveTexts x = new MoveTexts();
        String before = Check.state(x);
        int answer = Check.read(x, text.toString());
        if (answer != 0) {
            int place = answer % 10000;
            Check.due("kind of " + answer, answer / 10000 >= 1 && answer / 10000 <= 9, true);
            Check.due("place of " + answer, place <= text.length(), true);
            Check.due("nothing changes", Check.state(x), before);
            faultStandsThere(text.toString(), answer / 10000, place);
        } else {
            readAgain(x);
        }
    }

    /** What stands before the place of fault 1 is no fault yet: cut there, the text only ends too early. */
    private static void faultStandsThere(String text, int kind, int place) {
        if (kind == 1 && place < text.length()) {
            int answer = Check.read(new MoveTexts(), text.substring(0, place));
            Check.due("cut before the fault <" + text + ">", answer == 0 || answer == 10000 + place, true);
        }
    }

    private static void readAgain(MoveTexts x) {
        String once = Check.written(x);
        if (once.length() > 2000) {
            return;
        }
        MoveTexts y = new MoveTexts();
        Check.due("read of <" + once + ">", Check.read(y, once), 0);
        Check.due("written", Check.written(y), once);
        Check.due("nodes", y.nodes(), x.nodes());
        Check.due("result", y.result(), x.result());
        Check.due("the same tree", tree(y, 0), tree(x, 0));
    }

    /** The tree without the numbers of its nodes. */
    private static String tree(MoveTexts x, int node) {
        StringBuilder all = new StringBuilder();
        all.append('(').append(x.node(node, 1)).append(' ').append(Check.marks(x, node)).append(' ').append(Check.remark(x, node));
        for (int child = x.node(node, 2); child != MoveTexts.NONE; child = x.node(child, 3)) {
            all.append(tree(x, child));
        }
        return all.append(')').toString();
    }

    private static int moves(MoveTexts x) {
        int count = 0;
        while (x.move(count) != MoveTexts.NONE) {
            count++;
        }
        return count;
    }

    private static void grownTrees(Random random) {
        MoveTexts x = Check.game(SEEDS[random.nextInt(SEEDS.length)]);
        for (int i = 0; i < 70; i++) {
            try {
                switch (random.nextInt(6)) {
                    case 0:
                        x.go(random.nextInt(x.nodes() + 1));
                        break;
                    case 1:
                        x.lead();
                        break;
                    case 2:
                        x.addMark(random.nextInt(256));
                        break;
                    case 3:
                        Check.type(x, "(r" + i + ";");
                        x.say();
                        break;
                    default:
                        int count = moves(x);
                        if (count > 0) {
                            x.add(x.move(random.nextInt(count)));
                        }
                        break;
                }
            } catch (IllegalStateException | UnsupportedOperationException e) {
                x.cut(0);
            }
        }
        for (int node = 0; node <= x.nodes(); node++) {
            Check.due("deep", deep(x, node) <= 6, true);
        }
        x.end(x.result());
        readAgain(x);
    }

    private static int deep(MoveTexts x, int node) {
        int deep = 0;
        for (int on = node; on > 0; on = x.node(on, 0)) {
            deep += x.node(x.node(on, 0), 2) == on ? 0 : 1;
        }
        return deep;
    }
}
