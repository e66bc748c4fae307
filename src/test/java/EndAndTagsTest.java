/** Promises 21 to 24: end, result, tags, tag. */
public final class EndAndTagsTest {
    public static void main(String[] args) {
        ends();
        tagsAreTold();
        tagsThatAreNone();
        Check.close("EndAndTagsTest");
    }

    private static long end(MoveTexts x, int result) {
        x.end(result);
        return x.result();
    }

    private static void ends() {
        MoveTexts x = Check.game("[Result \"1-0\"] e4 1-0");
        Check.due("result", x.result(), 1);
        for (int result : new int[] {0, 1, 2, 3}) {
            Check.due("end(" + result + ")", end(x, result), result);
        }
        for (int result : new int[] {-1, 4, Integer.MIN_VALUE, Integer.MAX_VALUE}) {
            Check.throwsDue("end(" + result + ")", IllegalArgumentException.class, () -> end(x, result));
        }
        Check.due("result stays", x.result(), 3);
        Check.due("the tag is not looked at", Check.tag(x, 0, true), "1-0");
        Check.due("written", Check.written(x), "[Result \"1-0\"]\n\n1. e4 1/2-1/2");
    }

    private static void tagsAreTold() {
        MoveTexts x = Check.game("[Event \"A \\\"day\\\"\"][b \"\"]\n[ \nFEN \"4k3/8/8/8/8/8/8/4K3 b - - 5 9\"\n] [Z9 \" \\\\ {};\"] *");
        Check.due("tags", x.tags(), 4);
        String[] names = {"Event", "b", "FEN", "Z9"};
        String[] values = {"A \"day\"", "", "4k3/8/8/8/8/8/8/4K3 b - - 5 9", " \\ {};"};
        for (int k = 0; k < 4; k++) {
            Check.due("name", Check.tag(x, k, false), names[k]);
            Check.due("value", Check.tag(x, k, true), values[k]);
            Check.due("behind the name", x.tag(k, false, names[k].length()), 0);
            Check.due("behind the value", x.tag(k, true, values[k].length()), 0);
            Check.due("far behind", x.tag(k, true, Integer.MAX_VALUE), 0);
        }
        Check.due("the position", x.man(0), 0);
        Check.due("read", Check.read(x, "[q \"r\"]*"), 0);
        Check.due("tags", x.tags(), 1);
        Check.due("name", Check.tag(x, 0, false), "q");
        Check.due("value", Check.tag(x, 0, true), "r");
    }

    private static void tagsThatAreNone() {
        MoveTexts x = Check.game("[a \"b\"]*");
        for (int far : new int[] {-1, 1, 8, Integer.MIN_VALUE, Integer.MAX_VALUE}) {
            Check.throwsDue("tag " + far, IndexOutOfBoundsException.class, () -> x.tag(far, true, 0));
        }
        for (int far : new int[] {-1, Integer.MIN_VALUE}) {
            Check.throwsDue("character " + far, IndexOutOfBoundsException.class, () -> x.tag(0, false, far));
        }
        Check.throwsDue("no tags", IndexOutOfBoundsException.class, () -> new MoveTexts().tag(0, false, 0));
    }
}
