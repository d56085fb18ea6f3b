import java.lang.annotation.Retention;
import java.lang.annotation.RetentionPolicy;

/** The words of the document for which a test stands; promise 0 is what comes ahead of the promises. */
@Retention(RetentionPolicy.RUNTIME)
@interface Says {
    int promise();

    String words();
}
