import java.util.ArrayList;
import java.util.List;

/** The fault of texts that are walked through sign by sign, compared with the model's. */
public final class FaultTest {

    private static final String SIGNS = "0123456789:;+-ugoarwxm=*!~";

    public static void main(String[] args) {
        Check.part("short texts");
        walk("", 0);
        Check.part("next signs");
        String[] starts = {"0:+u", "0:+u1", "0:+u11", "0:-g", "0:-g7", "19:+a=", "19:+a=r", "19:+a=rw",
            "19:+a=rwx", "19:+a=x", "19:+a=m", "19:+a=m*", "0:+a=r;", "0:+a=r*;", "0:+a=r*;-", "0:+o",
            "0:+a=r;+a=r;+a=r;+a=r;+a=r", "0:+a=r;+a=r;+a=r;+a=r;+a=r;+a=r",
            "0:+a=r*;+a=r;+a=r;+a=r;+a=r;+a=rwxm", "0:+a=r;+a=r;+a=r;+a=r;+a=r;+a=r*"};
        for (String start : starts) {
            for (String first : signs()) {
                for (String second : signs()) {
                    compare(start + first + second);
                }
            }
        }
        Check.end();
    }

    private static List<String> signs() {
        List<String> all = new ArrayList<>();
        for (int i = 0; i < SIGNS.length(); i++) {
            all.add(SIGNS.substring(i, i + 1));
        }
        return all;
    }

    /** Goes on from a text as long as it is the beginning of a list, and one sign further. */
    private static void walk(String text, int depth) {
        int fault = compare(text);
        boolean isOpen = fault == -1 || fault == text.length();
        if (isOpen && depth < 7) {
            for (String sign : signs()) {
                if (depth > 0 || "019!:".contains(sign)) {
                    walk(text + sign, depth + 1);
                }
            }
        }
    }

    private static int compare(String text) {
        PermissionDesk desk = new PermissionDesk();
        Model model = new Model();
        for (int i = 0; i < text.length(); i++) {
            desk.append(text.charAt(i));
            model.append(text.charAt(i));
        }
        Check.is(text, desk.fault(), model.fault());
        return model.fault();
    }
}
