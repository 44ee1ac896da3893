import java.io.IOException;
import java.nio.file.Files;
import java.nio.file.Path;

/** README.md's example: its calls answer what stands behind them there. */
public final class ReadmeTest extends Checks {
    private static String readme = "";

    public static void main(String[] args) throws IOException {
        readme = Files.readString(Path.of("README.md"));
        theExample();
        finish("the example of README.md holds");
    }

    private static void theExample() {
        WeekBank bank = new WeekBank();
        int sea = bank.flat(0, 2);
        says("int sea = bank.flat(0, 2);", sea);
        int hill = bank.flat(1, 1);
        says("int hill = bank.flat(1, 1);", hill);
        int ann = bank.owner(100);
        says("int ann = bank.owner(100);", ann);
        int ben = bank.owner(50);
        says("int ben = bank.owner(50);", ben);
        says("bank.own(sea, 25, ann);", bank.own(sea, 25, ann));
        says("bank.own(hill, 30, ben);", bank.own(hill, 30, ben));
        says("bank.own(hill, 40, ben);", bank.own(hill, 40, ben));
        says("tell(bank, \"season 0 52 10; size 2 5;\");", tell(bank, "season 0 52 10; size 2 5;"));
        says("bank.worth(sea, 25);", bank.worth(sea, 25));
        int a = bank.give(ann, sea, 25);
        says("int a = bank.give(ann, sea, 25);", a);
        int b = bank.give(ben, hill, 30);
        says("int b = bank.give(ben, hill, 30);", b);
        says("bank.wish(a, 1, 0, 52, 1);", bank.wish(a, 1, 0, 52, 1));
        says("bank.wish(b, WeekBank.NONE, 20, 29, 2);", bank.wish(b, WeekBank.NONE, 20, 29, 2));
        says("bank.rings(2);", bank.rings(2));
        says("bank.party(sea, 25);", bank.party(sea, 25));
        int c = bank.give(ben, hill, 40);
        says("int c = bank.give(ben, hill, 40);", c);
        says("bank.bank(c);", bank.bank(c));
        says("bank.rushWish(ben, 1, 35, 45, 1);", bank.rushWish(ben, 1, 35, 45, 1));
        says("bank.rush();", bank.rush());
        says("bank.ownerOf(ben, 0);", bank.ownerOf(ben, 0));
        says("bank.ownerOf(ben, 1);", bank.ownerOf(ben, 1));
        says("bank.shut(sea, 20, 29);", bank.shut(sea, 20, 29));
        says("bank.ownerOf(ben, 0);", bank.ownerOf(ben, 0));
        says("bank.fees(120, 0);", bank.fees(120, 0));
        says("bank.fees(180, 0);", bank.fees(180, 0));
        says("bank.dies(ben, ann, true);", bank.dies(ben, ann, true));
        says("bank.fees(180, 0);", bank.fees(180, 0));
        says("bank.year();", bank.year());
    }

    private static void says(String call, boolean answer) {
        says(call, String.valueOf(answer));
    }

    private static void says(String call, int answer) {
        says(call, String.valueOf(answer));
    }

    /** Looks for the call behind the one before, as the same call may stand there twice with other answers. */
    private static void says(String call, String answer) {
        about("README.md");
        int at = readme.indexOf("\n" + call + " ");
        is(call + " stands there", at >= 0, true);
        if (at >= 0) {
            readme = readme.substring(at + 1 + call.length());
            String behind = readme.substring(0, readme.indexOf('\n')).trim().substring("// ".length());
            is(call, answer, behind.split(":")[0]);
        }
    }

    private static int tell(WeekBank bank, String text) {
        bank.end(0);
        for (int i = 0; i < text.length(); i += 20) {
            bank.feed(four(text, i), four(text, i + 4), four(text, i + 8), four(text, i + 12), four(text, i + 16));
        }
        bank.end(text.length());
        return bank.rules();
    }

    private static int four(String text, int from) {
        int number = 0;
        for (int i = from; i < from + 4; i++) {
            number = number << 8 | (i < text.length() ? text.charAt(i) : ' ');
        }
        return number;
    }
}
