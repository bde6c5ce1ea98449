/** Every short text over a few letters, and every short end of longer ones: where its fault is, held against the model. */
public final class TextsTest {
    public static void main(String[] args) {
        hold("", "pfkab0358; q", 5);
        hold("ka;kab;p3;", "pkfab3; ", 4);
        hold("ff3 3;kf;", "fk13; 0", 4);
        hold("kaaa", "abk; i", 5);
        hold("ka;kb;kc;kd;ke;kf;kg;kh;kaa;", "kab;p ", 5);
        Check.end();
    }

    private static void hold(String head, String letters, int most) {
        StringBuilder text = new StringBuilder();
        for (int length = 0; length <= most; length++) {
            long texts = Math.round(Math.pow(letters.length(), length));
            for (long number = 0; number < texts; number++) {
                text.setLength(0);
                text.append(head);
                long rest = number;
                for (int i = 0; i < length; i++) {
                    text.append(letters.charAt((int) (rest % letters.length())));
                    rest /= letters.length();
                }
                holdOne(text.toString());
            }
        }
    }

    private static void holdOne(String text) {
        FlagHoists x = new FlagHoists();
        Model model = new Model();
        for (int i = 0; i < text.length(); i++) {
            x.type(text.charAt(i));
            model.type(text.charAt(i));
        }
        int want = model.book();
        Check.due("book of '" + text + "'", want, x.book());
        Check.due("letters behind '" + text + "'", model.count(8), x.count(8));
        Check.due("PLACES behind '" + text + "'", model.count(2), x.count(2));
        Check.due("SENTENCES behind '" + text + "'", model.count(0), x.count(0));
    }
}
